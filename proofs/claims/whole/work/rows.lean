section
-- ===== PART A: goes FIRST, ahead of the names: the tables' words, and 'selects' of the private methods out of them =====
/-- a private method of a class that the tables say can be made, by its rows of tables_1 -/
def lw_okq (q : MethodName × Nat) : Prop := (q.1.cls ≠ "java/lang/invoke/MethodHandle" ∧ q.1.cls ≠ "java/lang/invoke/VarHandle") ∧ Cond.instantiable q.1.cls q.2 ∈ tables_1 ∧ Cond.privateMethod q.1 ∈ tables_1 ∧ Cond.instanceMethod q.1 ∈ tables_1
theorem lw_p0 : lw_okq (⟨"java/util/ArrayList", "add", "(Ljava/lang/Object;[Ljava/lang/Object;I)V"⟩, 3) := ⟨⟨by decide +kernel, by decide +kernel⟩, List.mem_of_getElem? (i := 58) (by decide +kernel), List.mem_of_getElem? (i := 316) (by decide +kernel), List.mem_of_getElem? (i := 317) (by decide +kernel)⟩
theorem lw_p1 : lw_okq (⟨"java/util/ArrayList", "grow", "()[Ljava/lang/Object;"⟩, 3) := ⟨⟨by decide +kernel, by decide +kernel⟩, List.mem_of_getElem? (i := 58) (by decide +kernel), List.mem_of_getElem? (i := 320) (by decide +kernel), List.mem_of_getElem? (i := 321) (by decide +kernel)⟩
theorem lw_p2 : lw_okq (⟨"java/util/ArrayList", "grow", "(I)[Ljava/lang/Object;"⟩, 3) := ⟨⟨by decide +kernel, by decide +kernel⟩, List.mem_of_getElem? (i := 58) (by decide +kernel), List.mem_of_getElem? (i := 324) (by decide +kernel), List.mem_of_getElem? (i := 325) (by decide +kernel)⟩
theorem lw_p3 : lw_okq (⟨"java/util/ArrayList", "fastRemove", "([Ljava/lang/Object;I)V"⟩, 3) := ⟨⟨by decide +kernel, by decide +kernel⟩, List.mem_of_getElem? (i := 58) (by decide +kernel), List.mem_of_getElem? (i := 414) (by decide +kernel), List.mem_of_getElem? (i := 415) (by decide +kernel)⟩
theorem lw_p4 : lw_okq (⟨"java/util/ArrayList", "rangeCheckForAdd", "(I)V"⟩, 3) := ⟨⟨by decide +kernel, by decide +kernel⟩, List.mem_of_getElem? (i := 58) (by decide +kernel), List.mem_of_getElem? (i := 423) (by decide +kernel), List.mem_of_getElem? (i := 424) (by decide +kernel)⟩
theorem lw_p5 : lw_okq (⟨"MadeMended$Rule", "readMark", "(I)I"⟩, 8) := ⟨⟨by decide +kernel, by decide +kernel⟩, List.mem_of_getElem? (i := 137) (by decide +kernel), List.mem_of_getElem? (i := 447) (by decide +kernel), List.mem_of_getElem? (i := 448) (by decide +kernel)⟩
theorem lw_p6 : lw_okq (⟨"MadeMended$Rule", "sortOfMark", "(I)I"⟩, 8) := ⟨⟨by decide +kernel, by decide +kernel⟩, List.mem_of_getElem? (i := 137) (by decide +kernel), List.mem_of_getElem? (i := 451) (by decide +kernel), List.mem_of_getElem? (i := 452) (by decide +kernel)⟩
theorem lw_p7 : lw_okq (⟨"MadeMended$Rule", "byteAt", "(I)I"⟩, 8) := ⟨⟨by decide +kernel, by decide +kernel⟩, List.mem_of_getElem? (i := 137) (by decide +kernel), List.mem_of_getElem? (i := 455) (by decide +kernel), List.mem_of_getElem? (i := 456) (by decide +kernel)⟩
theorem lw_p8 : lw_okq (⟨"MadeMended$Rule", "isIndex", "(I)Z"⟩, 8) := ⟨⟨by decide +kernel, by decide +kernel⟩, List.mem_of_getElem? (i := 137) (by decide +kernel), List.mem_of_getElem? (i := 462) (by decide +kernel), List.mem_of_getElem? (i := 463) (by decide +kernel)⟩
theorem lw_p9 : lw_okq (⟨"MadeMended$Rule", "blame", "(II)V"⟩, 8) := ⟨⟨by decide +kernel, by decide +kernel⟩, List.mem_of_getElem? (i := 137) (by decide +kernel), List.mem_of_getElem? (i := 466) (by decide +kernel), List.mem_of_getElem? (i := 467) (by decide +kernel)⟩
theorem lw_p10 : lw_okq (⟨"MadeMended$Rule", "addMark", "(II)V"⟩, 8) := ⟨⟨by decide +kernel, by decide +kernel⟩, List.mem_of_getElem? (i := 137) (by decide +kernel), List.mem_of_getElem? (i := 470) (by decide +kernel), List.mem_of_getElem? (i := 471) (by decide +kernel)⟩
theorem lw_p11 : lw_okq (⟨"MadeMended$Rule", "add", "(IIII)V"⟩, 8) := ⟨⟨by decide +kernel, by decide +kernel⟩, List.mem_of_getElem? (i := 137) (by decide +kernel), List.mem_of_getElem? (i := 474) (by decide +kernel), List.mem_of_getElem? (i := 475) (by decide +kernel)⟩
theorem lw_p12 : lw_okq (⟨"MadeMended$Rule", "readWord", "(I)I"⟩, 8) := ⟨⟨by decide +kernel, by decide +kernel⟩, List.mem_of_getElem? (i := 137) (by decide +kernel), List.mem_of_getElem? (i := 478) (by decide +kernel), List.mem_of_getElem? (i := 479) (by decide +kernel)⟩
theorem lw_p13 : lw_okq (⟨"MadeMended$Making", "makeUse", "(LMadeMended$Thing;II)V"⟩, 4) := ⟨⟨by decide +kernel, by decide +kernel⟩, List.mem_of_getElem? (i := 207) (by decide +kernel), List.mem_of_getElem? (i := 501) (by decide +kernel), List.mem_of_getElem? (i := 502) (by decide +kernel)⟩
theorem lw_p14 : lw_okq (⟨"MadeMended$Making", "makeParts", "(LMadeMended$Thing;III)V"⟩, 4) := ⟨⟨by decide +kernel, by decide +kernel⟩, List.mem_of_getElem? (i := 207) (by decide +kernel), List.mem_of_getElem? (i := 507) (by decide +kernel), List.mem_of_getElem? (i := 508) (by decide +kernel)⟩
theorem lw_p15 : lw_okq (⟨"MadeMended$Making", "makePiece", "(LMadeMended$Thing;LMadeMended$Rule;II)V"⟩, 4) := ⟨⟨by decide +kernel, by decide +kernel⟩, List.mem_of_getElem? (i := 207) (by decide +kernel), List.mem_of_getElem? (i := 511) (by decide +kernel), List.mem_of_getElem? (i := 512) (by decide +kernel)⟩
def lw_privs_1 : List (MethodName × Nat) := [(⟨"java/util/ArrayList", "add", "(Ljava/lang/Object;[Ljava/lang/Object;I)V"⟩, 3), (⟨"java/util/ArrayList", "grow", "()[Ljava/lang/Object;"⟩, 3), (⟨"java/util/ArrayList", "grow", "(I)[Ljava/lang/Object;"⟩, 3), (⟨"java/util/ArrayList", "fastRemove", "([Ljava/lang/Object;I)V"⟩, 3), (⟨"java/util/ArrayList", "rangeCheckForAdd", "(I)V"⟩, 3), (⟨"MadeMended$Rule", "readMark", "(I)I"⟩, 8), (⟨"MadeMended$Rule", "sortOfMark", "(I)I"⟩, 8), (⟨"MadeMended$Rule", "byteAt", "(I)I"⟩, 8), (⟨"MadeMended$Rule", "isIndex", "(I)Z"⟩, 8), (⟨"MadeMended$Rule", "blame", "(II)V"⟩, 8), (⟨"MadeMended$Rule", "addMark", "(II)V"⟩, 8), (⟨"MadeMended$Rule", "add", "(IIII)V"⟩, 8), (⟨"MadeMended$Rule", "readWord", "(I)I"⟩, 8), (⟨"MadeMended$Making", "makeUse", "(LMadeMended$Thing;II)V"⟩, 4), (⟨"MadeMended$Making", "makeParts", "(LMadeMended$Thing;III)V"⟩, 4), (⟨"MadeMended$Making", "makePiece", "(LMadeMended$Thing;LMadeMended$Rule;II)V"⟩, 4)]
theorem lw_r1 : ∀ q ∈ lw_privs_1, lw_okq q := List.forall_mem_cons.mpr ⟨lw_p0, List.forall_mem_cons.mpr ⟨lw_p1, List.forall_mem_cons.mpr ⟨lw_p2, List.forall_mem_cons.mpr ⟨lw_p3, List.forall_mem_cons.mpr ⟨lw_p4, List.forall_mem_cons.mpr ⟨lw_p5, List.forall_mem_cons.mpr ⟨lw_p6, List.forall_mem_cons.mpr ⟨lw_p7, List.forall_mem_cons.mpr ⟨lw_p8, List.forall_mem_cons.mpr ⟨lw_p9, List.forall_mem_cons.mpr ⟨lw_p10, List.forall_mem_cons.mpr ⟨lw_p11, List.forall_mem_cons.mpr ⟨lw_p12, List.forall_mem_cons.mpr ⟨lw_p13, List.forall_mem_cons.mpr ⟨lw_p14, List.forall_mem_cons.mpr ⟨lw_p15, fun _ h => absurd h List.not_mem_nil⟩⟩⟩⟩⟩⟩⟩⟩⟩⟩⟩⟩⟩⟩⟩⟩
theorem lw_p16 : lw_okq (⟨"MadeMended$Making", "spell", "(I)I"⟩, 4) := ⟨⟨by decide +kernel, by decide +kernel⟩, List.mem_of_getElem? (i := 207) (by decide +kernel), List.mem_of_getElem? (i := 573) (by decide +kernel), List.mem_of_getElem? (i := 574) (by decide +kernel)⟩
theorem lw_p17 : lw_okq (⟨"MadeMended", "turnToSpare", "()I"⟩, 8) := ⟨⟨by decide +kernel, by decide +kernel⟩, List.mem_of_getElem? (i := 23) (by decide +kernel), List.mem_of_getElem? (i := 577) (by decide +kernel), List.mem_of_getElem? (i := 578) (by decide +kernel)⟩
theorem lw_p18 : lw_okq (⟨"MadeMended$Text", "find", "(LMadeMended$Piece;I)I"⟩, 5) := ⟨⟨by decide +kernel, by decide +kernel⟩, List.mem_of_getElem? (i := 179) (by decide +kernel), List.mem_of_getElem? (i := 585) (by decide +kernel), List.mem_of_getElem? (i := 586) (by decide +kernel)⟩
theorem lw_p19 : lw_okq (⟨"MadeMended$LoneTexts", "keep", "(LMadeMended$Lone;)V"⟩, 2) := ⟨⟨by decide +kernel, by decide +kernel⟩, List.mem_of_getElem? (i := 226) (by decide +kernel), List.mem_of_getElem? (i := 629) (by decide +kernel), List.mem_of_getElem? (i := 630) (by decide +kernel)⟩
theorem lw_p20 : lw_okq (⟨"MadeMended", "fillSpareWith", "(LMadeMended$Thing;II)Z"⟩, 8) := ⟨⟨by decide +kernel, by decide +kernel⟩, List.mem_of_getElem? (i := 23) (by decide +kernel), List.mem_of_getElem? (i := 698) (by decide +kernel), List.mem_of_getElem? (i := 699) (by decide +kernel)⟩
theorem lw_p21 : lw_okq (⟨"MadeMended$Text", "showsLike", "(LMadeMended$Piece;LMadeMended$Text;LMadeMended$Piece;)Z"⟩, 5) := ⟨⟨by decide +kernel, by decide +kernel⟩, List.mem_of_getElem? (i := 179) (by decide +kernel), List.mem_of_getElem? (i := 712) (by decide +kernel), List.mem_of_getElem? (i := 713) (by decide +kernel)⟩
theorem lw_p22 : lw_okq (⟨"MadeMendedModel", "four", "(I)V"⟩, 52) := ⟨⟨by decide +kernel, by decide +kernel⟩, List.mem_of_getElem? (i := 766) (by decide +kernel), List.mem_of_getElem? (i := 935) (by decide +kernel), List.mem_of_getElem? (i := 936) (by decide +kernel)⟩
theorem lw_p23 : lw_okq (⟨"MadeMendedModel", "isName", "()Z"⟩, 52) := ⟨⟨by decide +kernel, by decide +kernel⟩, List.mem_of_getElem? (i := 766) (by decide +kernel), List.mem_of_getElem? (i := 950) (by decide +kernel), List.mem_of_getElem? (i := 951) (by decide +kernel)⟩
theorem lw_p24 : lw_okq (⟨"MadeMendedModel", "isThing", "(I)Z"⟩, 52) := ⟨⟨by decide +kernel, by decide +kernel⟩, List.mem_of_getElem? (i := 766) (by decide +kernel), List.mem_of_getElem? (i := 954) (by decide +kernel), List.mem_of_getElem? (i := 955) (by decide +kernel)⟩
theorem lw_p25 : lw_okq (⟨"MadeMendedModel", "depthOf", "(I)I"⟩, 52) := ⟨⟨by decide +kernel, by decide +kernel⟩, List.mem_of_getElem? (i := 766) (by decide +kernel), List.mem_of_getElem? (i := 958) (by decide +kernel), List.mem_of_getElem? (i := 959) (by decide +kernel)⟩
theorem lw_p26 : lw_okq (⟨"MadeMendedModel", "many", "(I)I"⟩, 52) := ⟨⟨by decide +kernel, by decide +kernel⟩, List.mem_of_getElem? (i := 766) (by decide +kernel), List.mem_of_getElem? (i := 962) (by decide +kernel), List.mem_of_getElem? (i := 963) (by decide +kernel)⟩
theorem lw_p27 : lw_okq (⟨"MadeMendedModel", "takeName", "(I)V"⟩, 52) := ⟨⟨by decide +kernel, by decide +kernel⟩, List.mem_of_getElem? (i := 766) (by decide +kernel), List.mem_of_getElem? (i := 966) (by decide +kernel), List.mem_of_getElem? (i := 967) (by decide +kernel)⟩
theorem lw_p28 : lw_okq (⟨"MadeMendedModel", "isWithin", "(II)Z"⟩, 52) := ⟨⟨by decide +kernel, by decide +kernel⟩, List.mem_of_getElem? (i := 766) (by decide +kernel), List.mem_of_getElem? (i := 987) (by decide +kernel), List.mem_of_getElem? (i := 988) (by decide +kernel)⟩
theorem lw_p29 : lw_okq (⟨"MadeMendedModel", "readRule", "()I"⟩, 52) := ⟨⟨by decide +kernel, by decide +kernel⟩, List.mem_of_getElem? (i := 766) (by decide +kernel), List.mem_of_getElem? (i := 995) (by decide +kernel), List.mem_of_getElem? (i := 996) (by decide +kernel)⟩
theorem lw_p30 : lw_okq (⟨"MadeMendedModel", "sign", "()I"⟩, 52) := ⟨⟨by decide +kernel, by decide +kernel⟩, List.mem_of_getElem? (i := 766) (by decide +kernel), List.mem_of_getElem? (i := 999) (by decide +kernel), List.mem_of_getElem? (i := 1000) (by decide +kernel)⟩
theorem lw_p31 : lw_okq (⟨"MadeMendedModel", "see", "(I)I"⟩, 52) := ⟨⟨by decide +kernel, by decide +kernel⟩, List.mem_of_getElem? (i := 766) (by decide +kernel), List.mem_of_getElem? (i := 1003) (by decide +kernel), List.mem_of_getElem? (i := 1004) (by decide +kernel)⟩
def lw_privs_2 : List (MethodName × Nat) := [(⟨"MadeMended$Making", "spell", "(I)I"⟩, 4), (⟨"MadeMended", "turnToSpare", "()I"⟩, 8), (⟨"MadeMended$Text", "find", "(LMadeMended$Piece;I)I"⟩, 5), (⟨"MadeMended$LoneTexts", "keep", "(LMadeMended$Lone;)V"⟩, 2), (⟨"MadeMended", "fillSpareWith", "(LMadeMended$Thing;II)Z"⟩, 8), (⟨"MadeMended$Text", "showsLike", "(LMadeMended$Piece;LMadeMended$Text;LMadeMended$Piece;)Z"⟩, 5), (⟨"MadeMendedModel", "four", "(I)V"⟩, 52), (⟨"MadeMendedModel", "isName", "()Z"⟩, 52), (⟨"MadeMendedModel", "isThing", "(I)Z"⟩, 52), (⟨"MadeMendedModel", "depthOf", "(I)I"⟩, 52), (⟨"MadeMendedModel", "many", "(I)I"⟩, 52), (⟨"MadeMendedModel", "takeName", "(I)V"⟩, 52), (⟨"MadeMendedModel", "isWithin", "(II)Z"⟩, 52), (⟨"MadeMendedModel", "readRule", "()I"⟩, 52), (⟨"MadeMendedModel", "sign", "()I"⟩, 52), (⟨"MadeMendedModel", "see", "(I)I"⟩, 52)]
theorem lw_r2 : ∀ q ∈ lw_privs_2, lw_okq q := List.forall_mem_cons.mpr ⟨lw_p16, List.forall_mem_cons.mpr ⟨lw_p17, List.forall_mem_cons.mpr ⟨lw_p18, List.forall_mem_cons.mpr ⟨lw_p19, List.forall_mem_cons.mpr ⟨lw_p20, List.forall_mem_cons.mpr ⟨lw_p21, List.forall_mem_cons.mpr ⟨lw_p22, List.forall_mem_cons.mpr ⟨lw_p23, List.forall_mem_cons.mpr ⟨lw_p24, List.forall_mem_cons.mpr ⟨lw_p25, List.forall_mem_cons.mpr ⟨lw_p26, List.forall_mem_cons.mpr ⟨lw_p27, List.forall_mem_cons.mpr ⟨lw_p28, List.forall_mem_cons.mpr ⟨lw_p29, List.forall_mem_cons.mpr ⟨lw_p30, List.forall_mem_cons.mpr ⟨lw_p31, fun _ h => absurd h List.not_mem_nil⟩⟩⟩⟩⟩⟩⟩⟩⟩⟩⟩⟩⟩⟩⟩⟩
theorem lw_p32 : lw_okq (⟨"MadeMendedModel", "put", "(III)I"⟩, 52) := ⟨⟨by decide +kernel, by decide +kernel⟩, List.mem_of_getElem? (i := 766) (by decide +kernel), List.mem_of_getElem? (i := 1007) (by decide +kernel), List.mem_of_getElem? (i := 1008) (by decide +kernel)⟩
theorem lw_p33 : lw_okq (⟨"MadeMendedModel", "makeNew", "()Z"⟩, 52) := ⟨⟨by decide +kernel, by decide +kernel⟩, List.mem_of_getElem? (i := 766) (by decide +kernel), List.mem_of_getElem? (i := 1019) (by decide +kernel), List.mem_of_getElem? (i := 1020) (by decide +kernel)⟩
theorem lw_p34 : lw_okq (⟨"MadeMendedModel", "childAt", "(II)I"⟩, 52) := ⟨⟨by decide +kernel, by decide +kernel⟩, List.mem_of_getElem? (i := 766) (by decide +kernel), List.mem_of_getElem? (i := 1023) (by decide +kernel), List.mem_of_getElem? (i := 1024) (by decide +kernel)⟩
theorem lw_p35 : lw_okq (⟨"MadeMendedModel", "begin", "(I)V"⟩, 52) := ⟨⟨by decide +kernel, by decide +kernel⟩, List.mem_of_getElem? (i := 766) (by decide +kernel), List.mem_of_getElem? (i := 1027) (by decide +kernel), List.mem_of_getElem? (i := 1028) (by decide +kernel)⟩
theorem lw_p36 : lw_okq (⟨"MadeMendedModel", "step", "()V"⟩, 52) := ⟨⟨by decide +kernel, by decide +kernel⟩, List.mem_of_getElem? (i := 766) (by decide +kernel), List.mem_of_getElem? (i := 1031) (by decide +kernel), List.mem_of_getElem? (i := 1032) (by decide +kernel)⟩
theorem lw_p37 : lw_okq (⟨"MadeMendedModel", "makePiece", "(II)V"⟩, 52) := ⟨⟨by decide +kernel, by decide +kernel⟩, List.mem_of_getElem? (i := 766) (by decide +kernel), List.mem_of_getElem? (i := 1035) (by decide +kernel), List.mem_of_getElem? (i := 1036) (by decide +kernel)⟩
theorem lw_p38 : lw_okq (⟨"MadeMendedModel", "write", "(I)V"⟩, 52) := ⟨⟨by decide +kernel, by decide +kernel⟩, List.mem_of_getElem? (i := 766) (by decide +kernel), List.mem_of_getElem? (i := 1039) (by decide +kernel), List.mem_of_getElem? (i := 1040) (by decide +kernel)⟩
theorem lw_p39 : lw_okq (⟨"MadeMendedModel", "writeNumber", "(I)V"⟩, 52) := ⟨⟨by decide +kernel, by decide +kernel⟩, List.mem_of_getElem? (i := 766) (by decide +kernel), List.mem_of_getElem? (i := 1043) (by decide +kernel), List.mem_of_getElem? (i := 1044) (by decide +kernel)⟩
theorem lw_p40 : lw_okq (⟨"MadeMendedModel", "turn", "()I"⟩, 52) := ⟨⟨by decide +kernel, by decide +kernel⟩, List.mem_of_getElem? (i := 766) (by decide +kernel), List.mem_of_getElem? (i := 1047) (by decide +kernel), List.mem_of_getElem? (i := 1048) (by decide +kernel)⟩
theorem lw_p41 : lw_okq (⟨"MadeMendedModel", "takeAll", "()I"⟩, 52) := ⟨⟨by decide +kernel, by decide +kernel⟩, List.mem_of_getElem? (i := 766) (by decide +kernel), List.mem_of_getElem? (i := 1051) (by decide +kernel), List.mem_of_getElem? (i := 1052) (by decide +kernel)⟩
theorem lw_p42 : lw_okq (⟨"MadeMendedModel", "sameOf", "(III)I"⟩, 52) := ⟨⟨by decide +kernel, by decide +kernel⟩, List.mem_of_getElem? (i := 766) (by decide +kernel), List.mem_of_getElem? (i := 1055) (by decide +kernel), List.mem_of_getElem? (i := 1056) (by decide +kernel)⟩
theorem lw_p43 : lw_okq (⟨"MadeMendedModel", "isSame", "(II)Z"⟩, 52) := ⟨⟨by decide +kernel, by decide +kernel⟩, List.mem_of_getElem? (i := 766) (by decide +kernel), List.mem_of_getElem? (i := 1059) (by decide +kernel), List.mem_of_getElem? (i := 1060) (by decide +kernel)⟩
theorem lw_p44 : lw_okq (⟨"MadeMendedModel", "takeOver", "(II)V"⟩, 52) := ⟨⟨by decide +kernel, by decide +kernel⟩, List.mem_of_getElem? (i := 766) (by decide +kernel), List.mem_of_getElem? (i := 1063) (by decide +kernel), List.mem_of_getElem? (i := 1064) (by decide +kernel)⟩
theorem lw_p45 : lw_okq (⟨"MadeMendedModel", "isMade", "(I[III)Z"⟩, 52) := ⟨⟨by decide +kernel, by decide +kernel⟩, List.mem_of_getElem? (i := 766) (by decide +kernel), List.mem_of_getElem? (i := 1067) (by decide +kernel), List.mem_of_getElem? (i := 1068) (by decide +kernel)⟩
theorem lw_p46 : lw_okq (⟨"MadeMendedModel", "keepLone", "(I)V"⟩, 52) := ⟨⟨by decide +kernel, by decide +kernel⟩, List.mem_of_getElem? (i := 766) (by decide +kernel), List.mem_of_getElem? (i := 1071) (by decide +kernel), List.mem_of_getElem? (i := 1072) (by decide +kernel)⟩
theorem lw_p47 : lw_okq (⟨"MadeMendedModel", "dropLone", "(I)V"⟩, 52) := ⟨⟨by decide +kernel, by decide +kernel⟩, List.mem_of_getElem? (i := 766) (by decide +kernel), List.mem_of_getElem? (i := 1075) (by decide +kernel), List.mem_of_getElem? (i := 1076) (by decide +kernel)⟩
def lw_privs_3 : List (MethodName × Nat) := [(⟨"MadeMendedModel", "put", "(III)I"⟩, 52), (⟨"MadeMendedModel", "makeNew", "()Z"⟩, 52), (⟨"MadeMendedModel", "childAt", "(II)I"⟩, 52), (⟨"MadeMendedModel", "begin", "(I)V"⟩, 52), (⟨"MadeMendedModel", "step", "()V"⟩, 52), (⟨"MadeMendedModel", "makePiece", "(II)V"⟩, 52), (⟨"MadeMendedModel", "write", "(I)V"⟩, 52), (⟨"MadeMendedModel", "writeNumber", "(I)V"⟩, 52), (⟨"MadeMendedModel", "turn", "()I"⟩, 52), (⟨"MadeMendedModel", "takeAll", "()I"⟩, 52), (⟨"MadeMendedModel", "sameOf", "(III)I"⟩, 52), (⟨"MadeMendedModel", "isSame", "(II)Z"⟩, 52), (⟨"MadeMendedModel", "takeOver", "(II)V"⟩, 52), (⟨"MadeMendedModel", "isMade", "(I[III)Z"⟩, 52), (⟨"MadeMendedModel", "keepLone", "(I)V"⟩, 52), (⟨"MadeMendedModel", "dropLone", "(I)V"⟩, 52)]
theorem lw_r3 : ∀ q ∈ lw_privs_3, lw_okq q := List.forall_mem_cons.mpr ⟨lw_p32, List.forall_mem_cons.mpr ⟨lw_p33, List.forall_mem_cons.mpr ⟨lw_p34, List.forall_mem_cons.mpr ⟨lw_p35, List.forall_mem_cons.mpr ⟨lw_p36, List.forall_mem_cons.mpr ⟨lw_p37, List.forall_mem_cons.mpr ⟨lw_p38, List.forall_mem_cons.mpr ⟨lw_p39, List.forall_mem_cons.mpr ⟨lw_p40, List.forall_mem_cons.mpr ⟨lw_p41, List.forall_mem_cons.mpr ⟨lw_p42, List.forall_mem_cons.mpr ⟨lw_p43, List.forall_mem_cons.mpr ⟨lw_p44, List.forall_mem_cons.mpr ⟨lw_p45, List.forall_mem_cons.mpr ⟨lw_p46, List.forall_mem_cons.mpr ⟨lw_p47, fun _ h => absurd h List.not_mem_nil⟩⟩⟩⟩⟩⟩⟩⟩⟩⟩⟩⟩⟩⟩⟩⟩
theorem lw_p48 : lw_okq (⟨"MadeMendedModel", "copy", "(II)V"⟩, 52) := ⟨⟨by decide +kernel, by decide +kernel⟩, List.mem_of_getElem? (i := 766) (by decide +kernel), List.mem_of_getElem? (i := 1079) (by decide +kernel), List.mem_of_getElem? (i := 1080) (by decide +kernel)⟩
theorem lw_p49 : lw_okq (⟨"MadeMendedModel", "isPiece", "(I)Z"⟩, 52) := ⟨⟨by decide +kernel, by decide +kernel⟩, List.mem_of_getElem? (i := 766) (by decide +kernel), List.mem_of_getElem? (i := 1087) (by decide +kernel), List.mem_of_getElem? (i := 1088) (by decide +kernel)⟩
theorem lw_p50 : lw_okq (⟨"MadeMendedModel", "shownLong", "(I)I"⟩, 52) := ⟨⟨by decide +kernel, by decide +kernel⟩, List.mem_of_getElem? (i := 766) (by decide +kernel), List.mem_of_getElem? (i := 1091) (by decide +kernel), List.mem_of_getElem? (i := 1092) (by decide +kernel)⟩
theorem lw_p51 : lw_okq (⟨"MadeMendedModel", "shown", "(II)I"⟩, 52) := ⟨⟨by decide +kernel, by decide +kernel⟩, List.mem_of_getElem? (i := 766) (by decide +kernel), List.mem_of_getElem? (i := 1099) (by decide +kernel), List.mem_of_getElem? (i := 1100) (by decide +kernel)⟩
theorem lw_p52 : lw_okq (⟨"MadeMendedModel", "setBase", "(I)V"⟩, 52) := ⟨⟨by decide +kernel, by decide +kernel⟩, List.mem_of_getElem? (i := 766) (by decide +kernel), List.mem_of_getElem? (i := 1107) (by decide +kernel), List.mem_of_getElem? (i := 1108) (by decide +kernel)⟩
theorem lw_p53 : lw_okq (⟨"MadeMendedModel", "numberOf", "(I)I"⟩, 52) := ⟨⟨by decide +kernel, by decide +kernel⟩, List.mem_of_getElem? (i := 766) (by decide +kernel), List.mem_of_getElem? (i := 1120) (by decide +kernel), List.mem_of_getElem? (i := 1121) (by decide +kernel)⟩
theorem lw_p54 : lw_okq (⟨"MadeMendedModel", "isShownAlike", "(II)Z"⟩, 52) := ⟨⟨by decide +kernel, by decide +kernel⟩, List.mem_of_getElem? (i := 766) (by decide +kernel), List.mem_of_getElem? (i := 1128) (by decide +kernel), List.mem_of_getElem? (i := 1129) (by decide +kernel)⟩
theorem lw_p55 : lw_okq (⟨"MadeMendedModel", "pieceAt", "(I)I"⟩, 52) := ⟨⟨by decide +kernel, by decide +kernel⟩, List.mem_of_getElem? (i := 766) (by decide +kernel), List.mem_of_getElem? (i := 1136) (by decide +kernel), List.mem_of_getElem? (i := 1137) (by decide +kernel)⟩
def lw_privs_4 : List (MethodName × Nat) := [(⟨"MadeMendedModel", "copy", "(II)V"⟩, 52), (⟨"MadeMendedModel", "isPiece", "(I)Z"⟩, 52), (⟨"MadeMendedModel", "shownLong", "(I)I"⟩, 52), (⟨"MadeMendedModel", "shown", "(II)I"⟩, 52), (⟨"MadeMendedModel", "setBase", "(I)V"⟩, 52), (⟨"MadeMendedModel", "numberOf", "(I)I"⟩, 52), (⟨"MadeMendedModel", "isShownAlike", "(II)Z"⟩, 52), (⟨"MadeMendedModel", "pieceAt", "(I)I"⟩, 52)]
theorem lw_r4 : ∀ q ∈ lw_privs_4, lw_okq q := List.forall_mem_cons.mpr ⟨lw_p48, List.forall_mem_cons.mpr ⟨lw_p49, List.forall_mem_cons.mpr ⟨lw_p50, List.forall_mem_cons.mpr ⟨lw_p51, List.forall_mem_cons.mpr ⟨lw_p52, List.forall_mem_cons.mpr ⟨lw_p53, List.forall_mem_cons.mpr ⟨lw_p54, List.forall_mem_cons.mpr ⟨lw_p55, fun _ h => absurd h List.not_mem_nil⟩⟩⟩⟩⟩⟩⟩⟩
def lw_privs : List (MethodName × Nat) := lw_privs_1 ++ (lw_privs_2 ++ (lw_privs_3 ++ (lw_privs_4)))
def lw_tbl : List Cond := k2_sels lw_privs ++ tables_1
theorem lw_privs_ok : ∀ q ∈ lw_privs, lw_okq q := by
  show ∀ q ∈ lw_privs_1 ++ (lw_privs_2 ++ (lw_privs_3 ++ (lw_privs_4))), lw_okq q
  exact List.forall_mem_append.mpr ⟨lw_r1, List.forall_mem_append.mpr ⟨lw_r2, List.forall_mem_append.mpr ⟨lw_r3, lw_r4⟩⟩⟩
end
section
def RX0 : String := "MadeMended$Hand"
def TX0 : u_T := fun k => match k with
  | 0 => ("MadeMended$Hand", "row", "[I", true)
  | _ => ("MadeMended$Hand", "base", "[I", true)
def tyX0 : Nat → FieldType := fun k => match k with
  | 0 => .array .int
  | _ => .array .int
abbrev wsX00 : List Cond := u_ws RX0 TX0 2
theorem nmX0 : ∀ a, a < 2 → ∀ b, b < 2 → a ≠ b → (TX0 a).2.1 ≠ (TX0 b).2.1 := by decide +kernel
theorem tyX0_ok : ∀ k, k < 2 → parseFieldDescriptor (TX0 k).2.2.1 = some (tyX0 k) := by decide +kernel
abbrev cX0_init : ByteArray := prog_2_method_1_code
def yX0_init : MethodName := ⟨RX0, "<init>", "([I[I)V"⟩
def RX1 : String := "MadeMended$Lone"
def TX1 : u_T := fun k => match k with
  | 0 => ("MadeMended$Lone", "row", "[I", true)
  | 1 => ("MadeMended$Lone", "sort", "I", true)
  | _ => ("MadeMended$Lone", "item", "I", true)
def tyX1 : Nat → FieldType := fun k => match k with
  | 0 => .array .int
  | 1 => .int
  | _ => .int
abbrev wsX10 : List Cond := u_ws RX1 TX1 3
theorem nmX1 : ∀ a, a < 3 → ∀ b, b < 3 → a ≠ b → (TX1 a).2.1 ≠ (TX1 b).2.1 := by decide +kernel
theorem tyX1_ok : ∀ k, k < 3 → parseFieldDescriptor (TX1 k).2.2.1 = some (tyX1 k) := by decide +kernel
abbrev cX1_init : ByteArray := prog_3_method_1_code
def yX1_init : MethodName := ⟨RX1, "<init>", "([III)V"⟩
def RX2 : String := "MadeMended$LoneTexts"
def TX2 : u_T := fun k => match k with
  | 0 => ("MadeMended$LoneTexts", "list", "Ljava/util/ArrayList;", true)
  | _ => ("MadeMended$LoneTexts", "fallen", "I", false)
def tyX2 : Nat → FieldType := fun k => match k with
  | 0 => .object "java/util/ArrayList"
  | _ => .int
abbrev wsX20 : List Cond := u_ws RX2 TX2 2
theorem nmX2 : ∀ a, a < 2 → ∀ b, b < 2 → a ≠ b → (TX2 a).2.1 ≠ (TX2 b).2.1 := by decide +kernel
theorem tyX2_ok : ∀ k, k < 2 → parseFieldDescriptor (TX2 k).2.2.1 = some (tyX2 k) := by decide +kernel
abbrev cX2_init : ByteArray := prog_4_method_1_code
def yX2_init : MethodName := ⟨RX2, "<init>", "()V"⟩
abbrev cX2_at : ByteArray := prog_4_method_2_code
def yX2_at : MethodName := ⟨RX2, "at", "(I)LMadeMended$Lone;"⟩
abbrev cX2_keepLost : ByteArray := prog_4_method_3_code
def yX2_keepLost : MethodName := ⟨RX2, "keepLost", "(LMadeMended$Text;)V"⟩
abbrev cX2_keep : ByteArray := prog_4_method_4_code
def yX2_keep : MethodName := ⟨RX2, "keep", "(LMadeMended$Lone;)V"⟩
abbrev cX2_remove : ByteArray := prog_4_method_5_code
def yX2_remove : MethodName := ⟨RX2, "remove", "(I)Z"⟩
def RX3 : String := "MadeMended$Making"
def TX3 : u_T := fun k => match k with
  | 0 => ("MadeMended$Making", "digits", "[I", true)
  | 1 => ("MadeMended$Making", "rules", "[LMadeMended$Rule;", true)
  | 2 => ("MadeMended$Making", "target", "LMadeMended$Text;", false)
  | _ => ("MadeMended$Making", "uses", "I", false)
def tyX3 : Nat → FieldType := fun k => match k with
  | 0 => .array .int
  | 1 => .array (.object "MadeMended$Rule")
  | 2 => .object "MadeMended$Text"
  | _ => .int
abbrev wsX30 : List Cond := u_ws RX3 TX3 4
theorem nmX3 : ∀ a, a < 4 → ∀ b, b < 4 → a ≠ b → (TX3 a).2.1 ≠ (TX3 b).2.1 := by decide +kernel
theorem tyX3_ok : ∀ k, k < 4 → parseFieldDescriptor (TX3 k).2.2.1 = some (tyX3 k) := by decide +kernel
abbrev cX3_init : ByteArray := prog_5_method_1_code
def yX3_init : MethodName := ⟨RX3, "<init>", "([LMadeMended$Rule;LMadeMended$Text;)V"⟩
abbrev cX3_fill : ByteArray := prog_5_method_2_code
def yX3_fill : MethodName := ⟨RX3, "fill", "(LMadeMended$Text;LMadeMended$Thing;)V"⟩
abbrev cX3_makeUse : ByteArray := prog_5_method_3_code
def yX3_makeUse : MethodName := ⟨RX3, "makeUse", "(LMadeMended$Thing;II)V"⟩
abbrev cX3_makeParts : ByteArray := prog_5_method_4_code
def yX3_makeParts : MethodName := ⟨RX3, "makeParts", "(LMadeMended$Thing;III)V"⟩
abbrev cX3_makePiece : ByteArray := prog_5_method_5_code
def yX3_makePiece : MethodName := ⟨RX3, "makePiece", "(LMadeMended$Thing;LMadeMended$Rule;II)V"⟩
abbrev cX3_spell : ByteArray := prog_5_method_6_code
def yX3_spell : MethodName := ⟨RX3, "spell", "(I)I"⟩
def RX4 : String := "MadeMended$Model"
def TX4 : u_T := fun k => match k with
  | 0 => ("MadeMended$Model", "ground", "LMadeMended$Thing;", true)
  | 1 => ("MadeMended$Model", "things", "[LMadeMended$Thing;", true)
  | _ => ("MadeMended$Model", "count", "I", false)
def tyX4 : Nat → FieldType := fun k => match k with
  | 0 => .object "MadeMended$Thing"
  | 1 => .array (.object "MadeMended$Thing")
  | _ => .int
abbrev wsX40 : List Cond := u_ws RX4 TX4 3
theorem nmX4 : ∀ a, a < 3 → ∀ b, b < 3 → a ≠ b → (TX4 a).2.1 ≠ (TX4 b).2.1 := by decide +kernel
theorem tyX4_ok : ∀ k, k < 3 → parseFieldDescriptor (TX4 k).2.2.1 = some (tyX4 k) := by decide +kernel
abbrev cX4_init : ByteArray := prog_6_method_1_code
def yX4_init : MethodName := ⟨RX4, "<init>", "()V"⟩
abbrev cX4_at : ByteArray := prog_6_method_2_code
def yX4_at : MethodName := ⟨RX4, "at", "(I)LMadeMended$Thing;"⟩
abbrev cX4_freeSlot : ByteArray := prog_6_method_3_code
def yX4_freeSlot : MethodName := ⟨RX4, "freeSlot", "()I"⟩
abbrev cX4_put : ByteArray := prog_6_method_4_code
def yX4_put : MethodName := ⟨RX4, "put", "(LMadeMended$Thing;)V"⟩
abbrev cX4_placeOf : ByteArray := prog_6_method_5_code
def yX4_placeOf : MethodName := ⟨RX4, "placeOf", "(LMadeMended$Thing;)I"⟩
abbrev cX4_shift : ByteArray := prog_6_method_6_code
def yX4_shift : MethodName := ⟨RX4, "shift", "(LMadeMended$Thing;I)Z"⟩
abbrev cX4_remove : ByteArray := prog_6_method_7_code
def yX4_remove : MethodName := ⟨RX4, "remove", "(LMadeMended$Thing;)I"⟩
def RX5 : String := "MadeMended$Piece"
def TX5 : u_T := fun k => match k with
  | 0 => ("MadeMended$Piece", "thing", "LMadeMended$Thing;", false)
  | 1 => ("MadeMended$Piece", "item", "I", false)
  | 2 => ("MadeMended$Piece", "sort", "I", false)
  | 3 => ("MadeMended$Piece", "number", "I", false)
  | 4 => ("MadeMended$Piece", "way", "I", false)
  | 5 => ("MadeMended$Piece", "start", "I", false)
  | 6 => ("MadeMended$Piece", "length", "I", false)
  | 7 => ("MadeMended$Piece", "byHand", "LMadeMended$Hand;", false)
  | _ => ("MadeMended$Piece", "lost", "Z", false)
def tyX5 : Nat → FieldType := fun k => match k with
  | 0 => .object "MadeMended$Thing"
  | 1 => .int
  | 2 => .int
  | 3 => .int
  | 4 => .int
  | 5 => .int
  | 6 => .int
  | 7 => .object "MadeMended$Hand"
  | _ => .boolean
abbrev wsX50 : List Cond := u_ws RX5 TX5 9
theorem nmX5 : ∀ a, a < 9 → ∀ b, b < 9 → a ≠ b → (TX5 a).2.1 ≠ (TX5 b).2.1 := by decide +kernel
theorem tyX5_ok : ∀ k, k < 9 → parseFieldDescriptor (TX5 k).2.2.1 = some (tyX5 k) := by decide +kernel
abbrev cX5_init : ByteArray := prog_7_method_1_code
def yX5_init : MethodName := ⟨RX5, "<init>", "(LMadeMended$Thing;)V"⟩
abbrev cX5_shownLength : ByteArray := prog_7_method_2_code
def yX5_shownLength : MethodName := ⟨RX5, "shownLength", "()I"⟩
abbrev cX5_hasMakerOf : ByteArray := prog_7_method_3_code
def yX5_hasMakerOf : MethodName := ⟨RX5, "hasMakerOf", "(LMadeMended$Piece;)Z"⟩
def RX6 : String := "MadeMended$Rule"
def TX6 : u_T := fun k => match k with
  | 0 => ("MadeMended$Rule", "bytes", "[I", true)
  | 1 => ("MadeMended$Rule", "sorts", "[I", true)
  | 2 => ("MadeMended$Rule", "firsts", "[I", true)
  | 3 => ("MadeMended$Rule", "seconds", "[I", true)
  | 4 => ("MadeMended$Rule", "count", "I", false)
  | 5 => ("MadeMended$Rule", "flaw", "I", false)
  | 6 => ("MadeMended$Rule", "flawPlace", "I", false)
  | _ => ("MadeMended$Rule", "open", "Z", false)
def tyX6 : Nat → FieldType := fun k => match k with
  | 0 => .array .int
  | 1 => .array .int
  | 2 => .array .int
  | 3 => .array .int
  | 4 => .int
  | 5 => .int
  | 6 => .int
  | _ => .boolean
abbrev wsX60 : List Cond := u_ws RX6 TX6 8
theorem nmX6 : ∀ a, a < 8 → ∀ b, b < 8 → a ≠ b → (TX6 a).2.1 ≠ (TX6 b).2.1 := by decide +kernel
theorem tyX6_ok : ∀ k, k < 8 → parseFieldDescriptor (TX6 k).2.2.1 = some (tyX6 k) := by decide +kernel
abbrev cX6_init : ByteArray := prog_8_method_1_code
def yX6_init : MethodName := ⟨RX6, "<init>", "([I)V"⟩
abbrev cX6_readItems : ByteArray := prog_8_method_2_code
def yX6_readItems : MethodName := ⟨RX6, "readItems", "()V"⟩
abbrev cX6_readWord : ByteArray := prog_8_method_3_code
def yX6_readWord : MethodName := ⟨RX6, "readWord", "(I)I"⟩
abbrev cX6_readMark : ByteArray := prog_8_method_4_code
def yX6_readMark : MethodName := ⟨RX6, "readMark", "(I)I"⟩
abbrev cX6_addMark : ByteArray := prog_8_method_5_code
def yX6_addMark : MethodName := ⟨RX6, "addMark", "(II)V"⟩
abbrev cX6_add : ByteArray := prog_8_method_6_code
def yX6_add : MethodName := ⟨RX6, "add", "(IIII)V"⟩
abbrev cX6_sortOfMark : ByteArray := prog_8_method_7_code
def yX6_sortOfMark : MethodName := ⟨RX6, "sortOfMark", "(I)I"⟩
abbrev cX6_isIndex : ByteArray := prog_8_method_8_code
def yX6_isIndex : MethodName := ⟨RX6, "isIndex", "(I)Z"⟩
abbrev cX6_byteAt : ByteArray := prog_8_method_9_code
def yX6_byteAt : MethodName := ⟨RX6, "byteAt", "(I)I"⟩
abbrev cX6_blame : ByteArray := prog_8_method_10_code
def yX6_blame : MethodName := ⟨RX6, "blame", "(II)V"⟩
def RX7 : String := "MadeMended$Tape"
def TX7 : u_T := fun k => match k with
  | 0 => ("MadeMended$Tape", "bytes", "[I", true)
  | _ => ("MadeMended$Tape", "length", "I", false)
def tyX7 : Nat → FieldType := fun k => match k with
  | 0 => .array .int
  | _ => .int
abbrev wsX70 : List Cond := u_ws RX7 TX7 2
theorem nmX7 : ∀ a, a < 2 → ∀ b, b < 2 → a ≠ b → (TX7 a).2.1 ≠ (TX7 b).2.1 := by decide +kernel
theorem tyX7_ok : ∀ k, k < 2 → parseFieldDescriptor (TX7 k).2.2.1 = some (tyX7 k) := by decide +kernel
abbrev cX7_init : ByteArray := prog_9_method_1_code
def yX7_init : MethodName := ⟨RX7, "<init>", "()V"⟩
abbrev cX7_putFour : ByteArray := prog_9_method_2_code
def yX7_putFour : MethodName := ⟨RX7, "putFour", "(I)V"⟩
abbrev cX7_isName : ByteArray := prog_9_method_3_code
def yX7_isName : MethodName := ⟨RX7, "isName", "()Z"⟩
abbrev cX7_cutAll : ByteArray := prog_9_method_4_code
def yX7_cutAll : MethodName := ⟨RX7, "cutAll", "()[I"⟩
def RX8 : String := "MadeMended$Text"
def TX8 : u_T := fun k => match k with
  | 0 => ("MadeMended$Text", "pieces", "[LMadeMended$Piece;", true)
  | 1 => ("MadeMended$Text", "made", "[I", true)
  | 2 => ("MadeMended$Text", "bytes", "I", false)
  | 3 => ("MadeMended$Text", "count", "I", false)
  | _ => ("MadeMended$Text", "full", "Z", false)
def tyX8 : Nat → FieldType := fun k => match k with
  | 0 => .array (.object "MadeMended$Piece")
  | 1 => .array .int
  | 2 => .int
  | 3 => .int
  | _ => .boolean
abbrev wsX80 : List Cond := u_ws RX8 TX8 5
theorem nmX8 : ∀ a, a < 5 → ∀ b, b < 5 → a ≠ b → (TX8 a).2.1 ≠ (TX8 b).2.1 := by decide +kernel
theorem tyX8_ok : ∀ k, k < 5 → parseFieldDescriptor (TX8 k).2.2.1 = some (tyX8 k) := by decide +kernel
abbrev cX8_init : ByteArray := prog_10_method_1_code
def yX8_init : MethodName := ⟨RX8, "<init>", "()V"⟩
abbrev cX8_clear : ByteArray := prog_10_method_2_code
def yX8_clear : MethodName := ⟨RX8, "clear", "()V"⟩
abbrev cX8_at : ByteArray := prog_10_method_3_code
def yX8_at : MethodName := ⟨RX8, "at", "(I)LMadeMended$Piece;"⟩
abbrev cX8_open : ByteArray := prog_10_method_4_code
def yX8_open : MethodName := ⟨RX8, "open", "(LMadeMended$Thing;IIII)V"⟩
abbrev cX8_putMade : ByteArray := prog_10_method_5_code
def yX8_putMade : MethodName := ⟨RX8, "putMade", "([III)V"⟩
abbrev cX8_madeByte : ByteArray := prog_10_method_6_code
def yX8_madeByte : MethodName := ⟨RX8, "madeByte", "(LMadeMended$Piece;I)I"⟩
abbrev cX8_shownByte : ByteArray := prog_10_method_7_code
def yX8_shownByte : MethodName := ⟨RX8, "shownByte", "(LMadeMended$Piece;I)I"⟩
abbrev cX8_madeIs : ByteArray := prog_10_method_8_code
def yX8_madeIs : MethodName := ⟨RX8, "madeIs", "(LMadeMended$Piece;[I)Z"⟩
abbrev cX8_copyOfMade : ByteArray := prog_10_method_9_code
def yX8_copyOfMade : MethodName := ⟨RX8, "copyOfMade", "(LMadeMended$Piece;)[I"⟩
abbrev cX8_isClash : ByteArray := prog_10_method_10_code
def yX8_isClash : MethodName := ⟨RX8, "isClash", "(LMadeMended$Piece;)Z"⟩
abbrev cX8_countClashes : ByteArray := prog_10_method_11_code
def yX8_countClashes : MethodName := ⟨RX8, "countClashes", "()I"⟩
abbrev cX8_shownBefore : ByteArray := prog_10_method_12_code
def yX8_shownBefore : MethodName := ⟨RX8, "shownBefore", "(I)I"⟩
abbrev cX8_showing : ByteArray := prog_10_method_13_code
def yX8_showing : MethodName := ⟨RX8, "showing", "(I)I"⟩
abbrev cX8_takeHands : ByteArray := prog_10_method_14_code
def yX8_takeHands : MethodName := ⟨RX8, "takeHands", "(LMadeMended$Text;)I"⟩
abbrev cX8_find : ByteArray := prog_10_method_15_code
def yX8_find : MethodName := ⟨RX8, "find", "(LMadeMended$Piece;I)I"⟩
abbrev cX8_countUnlike : ByteArray := prog_10_method_16_code
def yX8_countUnlike : MethodName := ⟨RX8, "countUnlike", "(LMadeMended$Text;)I"⟩
abbrev cX8_showsLike : ByteArray := prog_10_method_17_code
def yX8_showsLike : MethodName := ⟨RX8, "showsLike", "(LMadeMended$Piece;LMadeMended$Text;LMadeMended$Piece;)Z"⟩
def RX9 : String := "MadeMended$Thing"
def TX9 : u_T := fun k => match k with
  | 0 => ("MadeMended$Thing", "slot", "I", true)
  | 1 => ("MadeMended$Thing", "kind", "I", true)
  | 2 => ("MadeMended$Thing", "in", "LMadeMended$Thing;", true)
  | 3 => ("MadeMended$Thing", "depth", "I", true)
  | 4 => ("MadeMended$Thing", "numbers", "[I", true)
  | 5 => ("MadeMended$Thing", "parts", "Ljava/util/ArrayList;", true)
  | 6 => ("MadeMended$Thing", "letters", "[I", false)
  | _ => ("MadeMended$Thing", "gone", "Z", false)
def tyX9 : Nat → FieldType := fun k => match k with
  | 0 => .int
  | 1 => .int
  | 2 => .object "MadeMended$Thing"
  | 3 => .int
  | 4 => .array .int
  | 5 => .object "java/util/ArrayList"
  | 6 => .array .int
  | _ => .boolean
abbrev wsX90 : List Cond := u_ws RX9 TX9 8
theorem nmX9 : ∀ a, a < 8 → ∀ b, b < 8 → a ≠ b → (TX9 a).2.1 ≠ (TX9 b).2.1 := by decide +kernel
theorem tyX9_ok : ∀ k, k < 8 → parseFieldDescriptor (TX9 k).2.2.1 = some (tyX9 k) := by decide +kernel
abbrev cX9_init : ByteArray := prog_11_method_1_code
def yX9_init : MethodName := ⟨RX9, "<init>", "(IILMadeMended$Thing;[I)V"⟩
abbrev cX9_isWithin : ByteArray := prog_11_method_2_code
def yX9_isWithin : MethodName := ⟨RX9, "isWithin", "(LMadeMended$Thing;)Z"⟩
def RX10 : String := "MadeMended"
def TX10 : u_T := fun k => match k with
  | 0 => ("MadeMended", "tape", "LMadeMended$Tape;", true)
  | 1 => ("MadeMended", "model", "LMadeMended$Model;", true)
  | 2 => ("MadeMended", "rules", "[LMadeMended$Rule;", true)
  | 3 => ("MadeMended", "making", "LMadeMended$Making;", true)
  | 4 => ("MadeMended", "lones", "LMadeMended$LoneTexts;", true)
  | 5 => ("MadeMended", "latest", "LMadeMended$Rule;", false)
  | 6 => ("MadeMended", "now", "LMadeMended$Text;", false)
  | _ => ("MadeMended", "spare", "LMadeMended$Text;", false)
def tyX10 : Nat → FieldType := fun k => match k with
  | 0 => .object "MadeMended$Tape"
  | 1 => .object "MadeMended$Model"
  | 2 => .array (.object "MadeMended$Rule")
  | 3 => .object "MadeMended$Making"
  | 4 => .object "MadeMended$LoneTexts"
  | 5 => .object "MadeMended$Rule"
  | 6 => .object "MadeMended$Text"
  | _ => .object "MadeMended$Text"
abbrev wsX100 : List Cond := u_ws RX10 TX10 8
theorem nmX10 : ∀ a, a < 8 → ∀ b, b < 8 → a ≠ b → (TX10 a).2.1 ≠ (TX10 b).2.1 := by decide +kernel
theorem tyX10_ok : ∀ k, k < 8 → parseFieldDescriptor (TX10 k).2.2.1 = some (tyX10 k) := by decide +kernel
abbrev cX10_init : ByteArray := prog_1_method_1_code
def yX10_init : MethodName := ⟨RX10, "<init>", "()V"⟩
abbrev cX10_feed : ByteArray := prog_1_method_2_code
def yX10_feed : MethodName := ⟨RX10, "feed", "(IIIII)I"⟩
abbrev cX10_end : ByteArray := prog_1_method_3_code
def yX10_end : MethodName := ⟨RX10, "end", "(I)I"⟩
abbrev cX10_thing : ByteArray := prog_1_method_4_code
def yX10_thing : MethodName := ⟨RX10, "thing", "(II)I"⟩
abbrev cX10_number : ByteArray := prog_1_method_5_code
def yX10_number : MethodName := ⟨RX10, "number", "(III)Z"⟩
abbrev cX10_name : ByteArray := prog_1_method_6_code
def yX10_name : MethodName := ⟨RX10, "name", "(I)Z"⟩
abbrev cX10_move : ByteArray := prog_1_method_7_code
def yX10_move : MethodName := ⟨RX10, "move", "(II)Z"⟩
abbrev cX10_drop : ByteArray := prog_1_method_8_code
def yX10_drop : MethodName := ⟨RX10, "drop", "(I)I"⟩
abbrev cX10_rule : ByteArray := prog_1_method_9_code
def yX10_rule : MethodName := ⟨RX10, "rule", "(I)I"⟩
abbrev cX10_fault : ByteArray := prog_1_method_10_code
def yX10_fault : MethodName := ⟨RX10, "fault", "(I)I"⟩
abbrev cX10_make : ByteArray := prog_1_method_11_code
def yX10_make : MethodName := ⟨RX10, "make", "()I"⟩
abbrev cX10_piece : ByteArray := prog_1_method_12_code
def yX10_piece : MethodName := ⟨RX10, "piece", "(II)I"⟩
abbrev cX10_byteOf : ByteArray := prog_1_method_13_code
def yX10_byteOf : MethodName := ⟨RX10, "byteOf", "(III)I"⟩
abbrev cX10_hand : ByteArray := prog_1_method_14_code
def yX10_hand : MethodName := ⟨RX10, "hand", "(I)Z"⟩
abbrev cX10_take : ByteArray := prog_1_method_15_code
def yX10_take : MethodName := ⟨RX10, "take", "(II)Z"⟩
abbrev cX10_back : ByteArray := prog_1_method_16_code
def yX10_back : MethodName := ⟨RX10, "back", "(I)I"⟩
abbrev cX10_touch : ByteArray := prog_1_method_17_code
def yX10_touch : MethodName := ⟨RX10, "touch", "(IIII)I"⟩
abbrev cX10_text : ByteArray := prog_1_method_18_code
def yX10_text : MethodName := ⟨RX10, "text", "(I)I"⟩
abbrev cX10_maker : ByteArray := prog_1_method_19_code
def yX10_maker : MethodName := ⟨RX10, "maker", "(I)I"⟩
abbrev cX10_lone : ByteArray := prog_1_method_20_code
def yX10_lone : MethodName := ⟨RX10, "lone", "(III)I"⟩
abbrev cX10_drops : ByteArray := prog_1_method_21_code
def yX10_drops : MethodName := ⟨RX10, "drops", "(I)Z"⟩
abbrev cX10_thingOf : ByteArray := prog_1_method_22_code
def yX10_thingOf : MethodName := ⟨RX10, "thingOf", "(II)I"⟩
abbrev cX10_about : ByteArray := prog_1_method_23_code
def yX10_about : MethodName := ⟨RX10, "about", "(I)I"⟩
abbrev cX10_fillSpareWith : ByteArray := prog_1_method_24_code
def yX10_fillSpareWith : MethodName := ⟨RX10, "fillSpareWith", "(LMadeMended$Thing;II)Z"⟩
abbrev cX10_turnToSpare : ByteArray := prog_1_method_25_code
def yX10_turnToSpare : MethodName := ⟨RX10, "turnToSpare", "()I"⟩
abbrev cX10_isKind : ByteArray := prog_1_method_26_code
def yX10_isKind : MethodName := ⟨RX10, "isKind", "(I)Z"⟩
abbrev cX10_canBeNumber : ByteArray := prog_1_method_27_code
def yX10_canBeNumber : MethodName := ⟨RX10, "canBeNumber", "(II)Z"⟩
abbrev cX10_elementOf : ByteArray := prog_1_method_28_code
def yX10_elementOf : MethodName := ⟨RX10, "elementOf", "([II)I"⟩
abbrev cX10_valueOf : ByteArray := prog_1_method_29_code
def yX10_valueOf : MethodName := ⟨RX10, "valueOf", "([I)I"⟩
def RX11 : String := "MadeMendedModel"
def TX11 : u_T := fun k => match k with
  | 0 => ("MadeMendedModel", "things", "I", false)
  | 1 => ("MadeMendedModel", "came", "[I", true)
  | 2 => ("MadeMendedModel", "comings", "I", false)
  | 3 => ("MadeMendedModel", "kind", "[I", true)
  | 4 => ("MadeMendedModel", "parent", "[I", true)
  | 5 => ("MadeMendedModel", "place", "[I", true)
  | 6 => ("MadeMendedModel", "number", "[I", true)
  | 7 => ("MadeMendedModel", "name", "[I", true)
  | 8 => ("MadeMendedModel", "named", "[I", true)
  | 9 => ("MadeMendedModel", "items", "[I", true)
  | 10 => ("MadeMendedModel", "sort", "[I", true)
  | 11 => ("MadeMendedModel", "one", "[I", true)
  | 12 => ("MadeMendedModel", "two", "[I", true)
  | 13 => ("MadeMendedModel", "ruleBytes", "[I", true)
  | 14 => ("MadeMendedModel", "fault", "I", false)
  | 15 => ("MadeMendedModel", "faultPlace", "I", false)
  | 16 => ("MadeMendedModel", "tape", "[I", true)
  | 17 => ("MadeMendedModel", "taped", "I", false)
  | 18 => ("MadeMendedModel", "at", "I", false)
  | 19 => ("MadeMendedModel", "read", "I", false)
  | 20 => ("MadeMendedModel", "within", "Z", false)
  | 21 => ("MadeMendedModel", "pieces", "[I", true)
  | 22 => ("MadeMendedModel", "item", "[I", true)
  | 23 => ("MadeMendedModel", "pieceSort", "[I", true)
  | 24 => ("MadeMendedModel", "pieceKind", "[I", true)
  | 25 => ("MadeMendedModel", "pieceNumber", "[I", true)
  | 26 => ("MadeMendedModel", "deep", "[I", true)
  | 27 => ("MadeMendedModel", "way", "[I", true)
  | 28 => ("MadeMendedModel", "thingOf", "[I", true)
  | 29 => ("MadeMendedModel", "madeFrom", "[I", true)
  | 30 => ("MadeMendedModel", "madeLong", "[I", true)
  | 31 => ("MadeMendedModel", "bytes", "[I", true)
  | 32 => ("MadeMendedModel", "written", "I", false)
  | 33 => ("MadeMendedModel", "handLong", "[I", true)
  | 34 => ("MadeMendedModel", "hand", "[I", true)
  | 35 => ("MadeMendedModel", "baseLong", "[I", true)
  | 36 => ("MadeMendedModel", "base", "[I", true)
  | 37 => ("MadeMendedModel", "clash", "[Z", true)
  | 38 => ("MadeMendedModel", "useThing", "[I", true)
  | 39 => ("MadeMendedModel", "useItem", "[I", true)
  | 40 => ("MadeMendedModel", "useChild", "[I", true)
  | 41 => ("MadeMendedModel", "isLeft", "[Z", true)
  | 42 => ("MadeMendedModel", "open", "I", false)
  | 43 => ("MadeMendedModel", "uses", "I", false)
  | 44 => ("MadeMendedModel", "full", "Z", false)
  | 45 => ("MadeMendedModel", "lones", "I", false)
  | 46 => ("MadeMendedModel", "loneSort", "[I", true)
  | 47 => ("MadeMendedModel", "loneItem", "[I", true)
  | 48 => ("MadeMendedModel", "loneLong", "[I", true)
  | 49 => ("MadeMendedModel", "lone", "[I", true)
  | 50 => ("MadeMendedModel", "fallen", "I", false)
  | _ => ("MadeMendedModel", "placed", "I", false)
def tyX11 : Nat → FieldType := fun k => match k with
  | 0 => .int
  | 1 => .array .int
  | 2 => .int
  | 3 => .array .int
  | 4 => .array .int
  | 5 => .array .int
  | 6 => .array .int
  | 7 => .array .int
  | 8 => .array .int
  | 9 => .array .int
  | 10 => .array .int
  | 11 => .array .int
  | 12 => .array .int
  | 13 => .array .int
  | 14 => .int
  | 15 => .int
  | 16 => .array .int
  | 17 => .int
  | 18 => .int
  | 19 => .int
  | 20 => .boolean
  | 21 => .array .int
  | 22 => .array .int
  | 23 => .array .int
  | 24 => .array .int
  | 25 => .array .int
  | 26 => .array .int
  | 27 => .array .int
  | 28 => .array .int
  | 29 => .array .int
  | 30 => .array .int
  | 31 => .array .int
  | 32 => .int
  | 33 => .array .int
  | 34 => .array .int
  | 35 => .array .int
  | 36 => .array .int
  | 37 => .array .boolean
  | 38 => .array .int
  | 39 => .array .int
  | 40 => .array .int
  | 41 => .array .boolean
  | 42 => .int
  | 43 => .int
  | 44 => .boolean
  | 45 => .int
  | 46 => .array .int
  | 47 => .array .int
  | 48 => .array .int
  | 49 => .array .int
  | 50 => .int
  | _ => .int
abbrev wsX110 : List Cond := u_ws RX11 TX11 52
theorem nmX11 : ∀ a, a < 52 → ∀ b, b < 52 → a ≠ b → (TX11 a).2.1 ≠ (TX11 b).2.1 := by decide +kernel
theorem tyX11_ok : ∀ k, k < 52 → parseFieldDescriptor (TX11 k).2.2.1 = some (tyX11 k) := by decide +kernel
abbrev cX11_init : ByteArray := prog_13_method_1_code
def yX11_init : MethodName := ⟨RX11, "<init>", "()V"⟩
abbrev cX11_isIn : ByteArray := prog_13_method_2_code
def yX11_isIn : MethodName := ⟨RX11, "isIn", "(III)Z"⟩
abbrev cX11_isThing : ByteArray := prog_13_method_3_code
def yX11_isThing : MethodName := ⟨RX11, "isThing", "(I)Z"⟩
abbrev cX11_four : ByteArray := prog_13_method_4_code
def yX11_four : MethodName := ⟨RX11, "four", "(I)V"⟩
abbrev cX11_feed : ByteArray := prog_13_method_5_code
def yX11_feed : MethodName := ⟨RX11, "feed", "(IIIII)I"⟩
abbrev cX11_end : ByteArray := prog_13_method_6_code
def yX11_end : MethodName := ⟨RX11, "end", "(I)I"⟩
abbrev cX11_isName : ByteArray := prog_13_method_7_code
def yX11_isName : MethodName := ⟨RX11, "isName", "()Z"⟩
abbrev cX11_depthOf : ByteArray := prog_13_method_8_code
def yX11_depthOf : MethodName := ⟨RX11, "depthOf", "(I)I"⟩
abbrev cX11_many : ByteArray := prog_13_method_9_code
def yX11_many : MethodName := ⟨RX11, "many", "(I)I"⟩
abbrev cX11_takeName : ByteArray := prog_13_method_10_code
def yX11_takeName : MethodName := ⟨RX11, "takeName", "(I)V"⟩
abbrev cX11_thing : ByteArray := prog_13_method_11_code
def yX11_thing : MethodName := ⟨RX11, "thing", "(II)I"⟩
abbrev cX11_number : ByteArray := prog_13_method_12_code
def yX11_number : MethodName := ⟨RX11, "number", "(III)Z"⟩
abbrev cX11_name : ByteArray := prog_13_method_13_code
def yX11_name : MethodName := ⟨RX11, "name", "(I)Z"⟩
abbrev cX11_move : ByteArray := prog_13_method_14_code
def yX11_move : MethodName := ⟨RX11, "move", "(II)Z"⟩
abbrev cX11_isWithin : ByteArray := prog_13_method_15_code
def yX11_isWithin : MethodName := ⟨RX11, "isWithin", "(II)Z"⟩
abbrev cX11_drop : ByteArray := prog_13_method_16_code
def yX11_drop : MethodName := ⟨RX11, "drop", "(I)I"⟩
abbrev cX11_see : ByteArray := prog_13_method_17_code
def yX11_see : MethodName := ⟨RX11, "see", "(I)I"⟩
abbrev cX11_put : ByteArray := prog_13_method_18_code
def yX11_put : MethodName := ⟨RX11, "put", "(III)I"⟩
abbrev cX11_sign : ByteArray := prog_13_method_19_code
def yX11_sign : MethodName := ⟨RX11, "sign", "()I"⟩
abbrev cX11_readRule : ByteArray := prog_13_method_20_code
def yX11_readRule : MethodName := ⟨RX11, "readRule", "()I"⟩
abbrev cX11_rule : ByteArray := prog_13_method_21_code
def yX11_rule : MethodName := ⟨RX11, "rule", "(I)I"⟩
abbrev cX11_fault : ByteArray := prog_13_method_22_code
def yX11_fault : MethodName := ⟨RX11, "fault", "(I)I"⟩
abbrev cX11_begin : ByteArray := prog_13_method_23_code
def yX11_begin : MethodName := ⟨RX11, "begin", "(I)V"⟩
abbrev cX11_write : ByteArray := prog_13_method_24_code
def yX11_write : MethodName := ⟨RX11, "write", "(I)V"⟩
abbrev cX11_writeNumber : ByteArray := prog_13_method_25_code
def yX11_writeNumber : MethodName := ⟨RX11, "writeNumber", "(I)V"⟩
abbrev cX11_makePiece : ByteArray := prog_13_method_26_code
def yX11_makePiece : MethodName := ⟨RX11, "makePiece", "(II)V"⟩
abbrev cX11_childAt : ByteArray := prog_13_method_27_code
def yX11_childAt : MethodName := ⟨RX11, "childAt", "(II)I"⟩
abbrev cX11_step : ByteArray := prog_13_method_28_code
def yX11_step : MethodName := ⟨RX11, "step", "()V"⟩
abbrev cX11_makeNew : ByteArray := prog_13_method_29_code
def yX11_makeNew : MethodName := ⟨RX11, "makeNew", "()Z"⟩
abbrev cX11_isSame : ByteArray := prog_13_method_30_code
def yX11_isSame : MethodName := ⟨RX11, "isSame", "(II)Z"⟩
abbrev cX11_sameOf : ByteArray := prog_13_method_31_code
def yX11_sameOf : MethodName := ⟨RX11, "sameOf", "(III)I"⟩
abbrev cX11_isMade : ByteArray := prog_13_method_32_code
def yX11_isMade : MethodName := ⟨RX11, "isMade", "(I[III)Z"⟩
abbrev cX11_takeOver : ByteArray := prog_13_method_33_code
def yX11_takeOver : MethodName := ⟨RX11, "takeOver", "(II)V"⟩
abbrev cX11_takeAll : ByteArray := prog_13_method_34_code
def yX11_takeAll : MethodName := ⟨RX11, "takeAll", "()I"⟩
abbrev cX11_dropLone : ByteArray := prog_13_method_35_code
def yX11_dropLone : MethodName := ⟨RX11, "dropLone", "(I)V"⟩
abbrev cX11_keepLone : ByteArray := prog_13_method_36_code
def yX11_keepLone : MethodName := ⟨RX11, "keepLone", "(I)V"⟩
abbrev cX11_turn : ByteArray := prog_13_method_37_code
def yX11_turn : MethodName := ⟨RX11, "turn", "()I"⟩
abbrev cX11_copy : ByteArray := prog_13_method_38_code
def yX11_copy : MethodName := ⟨RX11, "copy", "(II)V"⟩
abbrev cX11_make : ByteArray := prog_13_method_39_code
def yX11_make : MethodName := ⟨RX11, "make", "()I"⟩
abbrev cX11_isPiece : ByteArray := prog_13_method_40_code
def yX11_isPiece : MethodName := ⟨RX11, "isPiece", "(I)Z"⟩
abbrev cX11_shownLong : ByteArray := prog_13_method_41_code
def yX11_shownLong : MethodName := ⟨RX11, "shownLong", "(I)I"⟩
abbrev cX11_shown : ByteArray := prog_13_method_42_code
def yX11_shown : MethodName := ⟨RX11, "shown", "(II)I"⟩
abbrev cX11_piece : ByteArray := prog_13_method_43_code
def yX11_piece : MethodName := ⟨RX11, "piece", "(II)I"⟩
abbrev cX11_byteOf : ByteArray := prog_13_method_44_code
def yX11_byteOf : MethodName := ⟨RX11, "byteOf", "(III)I"⟩
abbrev cX11_setBase : ByteArray := prog_13_method_45_code
def yX11_setBase : MethodName := ⟨RX11, "setBase", "(I)V"⟩
abbrev cX11_hand : ByteArray := prog_13_method_46_code
def yX11_hand : MethodName := ⟨RX11, "hand", "(I)Z"⟩
abbrev cX11_take : ByteArray := prog_13_method_47_code
def yX11_take : MethodName := ⟨RX11, "take", "(II)Z"⟩
abbrev cX11_numberOf : ByteArray := prog_13_method_48_code
def yX11_numberOf : MethodName := ⟨RX11, "numberOf", "(I)I"⟩
abbrev cX11_back : ByteArray := prog_13_method_49_code
def yX11_back : MethodName := ⟨RX11, "back", "(I)I"⟩
abbrev cX11_touch : ByteArray := prog_13_method_50_code
def yX11_touch : MethodName := ⟨RX11, "touch", "(IIII)I"⟩
abbrev cX11_isShownAlike : ByteArray := prog_13_method_51_code
def yX11_isShownAlike : MethodName := ⟨RX11, "isShownAlike", "(II)Z"⟩
abbrev cX11_pieceAt : ByteArray := prog_13_method_52_code
def yX11_pieceAt : MethodName := ⟨RX11, "pieceAt", "(I)I"⟩
abbrev cX11_text : ByteArray := prog_13_method_53_code
def yX11_text : MethodName := ⟨RX11, "text", "(I)I"⟩
abbrev cX11_maker : ByteArray := prog_13_method_54_code
def yX11_maker : MethodName := ⟨RX11, "maker", "(I)I"⟩
abbrev cX11_lone : ByteArray := prog_13_method_55_code
def yX11_lone : MethodName := ⟨RX11, "lone", "(III)I"⟩
abbrev cX11_drops : ByteArray := prog_13_method_56_code
def yX11_drops : MethodName := ⟨RX11, "drops", "(I)Z"⟩
abbrev cX11_thingOf : ByteArray := prog_13_method_57_code
def yX11_thingOf : MethodName := ⟨RX11, "thingOf", "(II)I"⟩
abbrev cX11_about : ByteArray := prog_13_method_58_code
def yX11_about : MethodName := ⟨RX11, "about", "(I)I"⟩
def RJx145de : String := "java/io/Serializable"
def TJx145de : u_T := fun k => match k with
  | _ => ("", "", "", false)
def tyJx145de : Nat → FieldType := fun k => match k with
  | _ => .int
abbrev wsJx145de0 : List Cond := u_ws RJx145de TJx145de 0
theorem nmJx145de : ∀ a, a < 0 → ∀ b, b < 0 → a ≠ b → (TJx145de a).2.1 ≠ (TJx145de b).2.1 := by decide +kernel
theorem tyJx145de_ok : ∀ k, k < 0 → parseFieldDescriptor (TJx145de k).2.2.1 = some (tyJx145de k) := by decide +kernel
def RJx8e188 : String := "java/lang/Cloneable"
def TJx8e188 : u_T := fun k => match k with
  | _ => ("", "", "", false)
def tyJx8e188 : Nat → FieldType := fun k => match k with
  | _ => .int
abbrev wsJx8e1880 : List Cond := u_ws RJx8e188 TJx8e188 0
theorem nmJx8e188 : ∀ a, a < 0 → ∀ b, b < 0 → a ≠ b → (TJx8e188 a).2.1 ≠ (TJx8e188 b).2.1 := by decide +kernel
theorem tyJx8e188_ok : ∀ k, k < 0 → parseFieldDescriptor (TJx8e188 k).2.2.1 = some (tyJx8e188 k) := by decide +kernel
def RJxab1ab : String := "java/lang/Iterable"
def TJxab1ab : u_T := fun k => match k with
  | _ => ("", "", "", false)
def tyJxab1ab : Nat → FieldType := fun k => match k with
  | _ => .int
abbrev wsJxab1ab0 : List Cond := u_ws RJxab1ab TJxab1ab 0
theorem nmJxab1ab : ∀ a, a < 0 → ∀ b, b < 0 → a ≠ b → (TJxab1ab a).2.1 ≠ (TJxab1ab b).2.1 := by decide +kernel
theorem tyJxab1ab_ok : ∀ k, k < 0 → parseFieldDescriptor (TJxab1ab k).2.2.1 = some (tyJxab1ab k) := by decide +kernel
def RJ9 : String := "java/lang/Math"
def TJ9 : u_T := fun k => match k with
  | _ => ("", "", "", false)
def tyJ9 : Nat → FieldType := fun k => match k with
  | _ => .int
abbrev wsJ90 : List Cond := u_ws RJ9 TJ9 0
theorem nmJ9 : ∀ a, a < 0 → ∀ b, b < 0 → a ≠ b → (TJ9 a).2.1 ≠ (TJ9 b).2.1 := by decide +kernel
theorem tyJ9_ok : ∀ k, k < 0 → parseFieldDescriptor (TJ9 k).2.2.1 = some (tyJ9 k) := by decide +kernel
abbrev cJ9_max_7cf53 : ByteArray := prog_17_method_65_code
def yJ9_max_7cf53 : MethodName := ⟨RJ9, "max", "(II)I"⟩
abbrev cJ9_min_7cf53 : ByteArray := prog_17_method_69_code
def yJ9_min_7cf53 : MethodName := ⟨RJ9, "min", "(II)I"⟩
def RJ10 : String := "java/lang/System"
def TJ10 : u_T := fun k => match k with
  | _ => ("", "", "", false)
def tyJ10 : Nat → FieldType := fun k => match k with
  | _ => .int
abbrev wsJ100 : List Cond := u_ws RJ10 TJ10 0
theorem nmJ10 : ∀ a, a < 0 → ∀ b, b < 0 → a ≠ b → (TJ10 a).2.1 ≠ (TJ10 b).2.1 := by decide +kernel
theorem tyJ10_ok : ∀ k, k < 0 → parseFieldDescriptor (TJ10 k).2.2.1 = some (tyJ10 k) := by decide +kernel
def RJxa1e45 : String := "java/util/AbstractCollection"
def TJxa1e45 : u_T := fun k => match k with
  | _ => ("", "", "", false)
def tyJxa1e45 : Nat → FieldType := fun k => match k with
  | _ => .int
abbrev wsJxa1e450 : List Cond := u_ws RJxa1e45 TJxa1e45 0
theorem nmJxa1e45 : ∀ a, a < 0 → ∀ b, b < 0 → a ≠ b → (TJxa1e45 a).2.1 ≠ (TJxa1e45 b).2.1 := by decide +kernel
theorem tyJxa1e45_ok : ∀ k, k < 0 → parseFieldDescriptor (TJxa1e45 k).2.2.1 = some (tyJxa1e45 k) := by decide +kernel
abbrev cJxa1e45_init_da8c8 : ByteArray := prog_19_method_1_code
def yJxa1e45_init_da8c8 : MethodName := ⟨RJxa1e45, "<init>", "()V"⟩
def RJxc12de : String := "java/util/AbstractList"
def TJxc12de : u_T := fun k => match k with
  | _ => ("", "", "", false)
def tyJxc12de : Nat → FieldType := fun k => match k with
  | _ => .int
abbrev wsJxc12de0 : List Cond := u_ws RJxc12de TJxc12de 0
theorem nmJxc12de : ∀ a, a < 0 → ∀ b, b < 0 → a ≠ b → (TJxc12de a).2.1 ≠ (TJxc12de b).2.1 := by decide +kernel
theorem tyJxc12de_ok : ∀ k, k < 0 → parseFieldDescriptor (TJxc12de k).2.2.1 = some (tyJxc12de k) := by decide +kernel
abbrev cJxc12de_init_da8c8 : ByteArray := prog_20_method_1_code
def yJxc12de_init_da8c8 : MethodName := ⟨RJxc12de, "<init>", "()V"⟩
def RJx4a65c : String := "java/util/ArrayList"
def TJx4a65c : u_T := fun k => match k with
  | 0 => ("java/util/AbstractList", "modCount", "I", false)
  | 1 => ("java/util/ArrayList", "elementData", "[Ljava/lang/Object;", false)
  | _ => ("java/util/ArrayList", "size", "I", false)
def tyJx4a65c : Nat → FieldType := fun k => match k with
  | 0 => .int
  | 1 => .array (.object "java/lang/Object")
  | _ => .int
abbrev wsJx4a65c0 : List Cond := u_ws RJx4a65c TJx4a65c 3
theorem nmJx4a65c : ∀ a, a < 3 → ∀ b, b < 3 → a ≠ b → (TJx4a65c a).2.1 ≠ (TJx4a65c b).2.1 := by decide +kernel
theorem tyJx4a65c_ok : ∀ k, k < 3 → parseFieldDescriptor (TJx4a65c k).2.2.1 = some (tyJx4a65c k) := by decide +kernel
abbrev cJx4a65c_init_da8c8 : ByteArray := prog_21_method_2_code
def yJx4a65c_init_da8c8 : MethodName := ⟨RJx4a65c, "<init>", "()V"⟩
abbrev cJx4a65c_grow_92f84 : ByteArray := prog_21_method_6_code
def yJx4a65c_grow_92f84 : MethodName := ⟨RJx4a65c, "grow", "(I)[Ljava/lang/Object;"⟩
abbrev cJx4a65c_grow_d5877 : ByteArray := prog_21_method_7_code
def yJx4a65c_grow_d5877 : MethodName := ⟨RJx4a65c, "grow", "()[Ljava/lang/Object;"⟩
abbrev cJx4a65c_size_8abf5 : ByteArray := prog_21_method_8_code
def yJx4a65c_size_8abf5 : MethodName := ⟨RJx4a65c, "size", "()I"⟩
abbrev cJx4a65c_elementData_915e3 : ByteArray := prog_21_method_18_code
def yJx4a65c_elementData_915e3 : MethodName := ⟨RJx4a65c, "elementData", "(I)Ljava/lang/Object;"⟩
abbrev cJx4a65c_get_915e3 : ByteArray := prog_21_method_20_code
def yJx4a65c_get_915e3 : MethodName := ⟨RJx4a65c, "get", "(I)Ljava/lang/Object;"⟩
abbrev cJx4a65c_add_72be8 : ByteArray := prog_21_method_24_code
def yJx4a65c_add_72be8 : MethodName := ⟨RJx4a65c, "add", "(Ljava/lang/Object;[Ljava/lang/Object;I)V"⟩
abbrev cJx4a65c_add_9ea2d : ByteArray := prog_21_method_25_code
def yJx4a65c_add_9ea2d : MethodName := ⟨RJx4a65c, "add", "(Ljava/lang/Object;)Z"⟩
abbrev cJx4a65c_add_7a177 : ByteArray := prog_21_method_26_code
def yJx4a65c_add_7a177 : MethodName := ⟨RJx4a65c, "add", "(ILjava/lang/Object;)V"⟩
abbrev cJx4a65c_remove_915e3 : ByteArray := prog_21_method_29_code
def yJx4a65c_remove_915e3 : MethodName := ⟨RJx4a65c, "remove", "(I)Ljava/lang/Object;"⟩
abbrev cJx4a65c_fastRemove_b59b0 : ByteArray := prog_21_method_39_code
def yJx4a65c_fastRemove_b59b0 : MethodName := ⟨RJx4a65c, "fastRemove", "([Ljava/lang/Object;I)V"⟩
abbrev cJx4a65c_rangeCheckForAdd_d00df : ByteArray := prog_21_method_45_code
def yJx4a65c_rangeCheckForAdd_d00df : MethodName := ⟨RJx4a65c, "rangeCheckForAdd", "(I)V"⟩
def RJ7 : String := "java/util/Arrays"
def TJ7 : u_T := fun k => match k with
  | _ => ("", "", "", false)
def tyJ7 : Nat → FieldType := fun k => match k with
  | _ => .int
abbrev wsJ70 : List Cond := u_ws RJ7 TJ7 0
theorem nmJ7 : ∀ a, a < 0 → ∀ b, b < 0 → a ≠ b → (TJ7 a).2.1 ≠ (TJ7 b).2.1 := by decide +kernel
theorem tyJ7_ok : ∀ k, k < 0 → parseFieldDescriptor (TJ7 k).2.2.1 = some (tyJ7 k) := by decide +kernel
abbrev cJ7_copyOf_1904c : ByteArray := prog_22_method_119_code
def yJ7_copyOf_1904c : MethodName := ⟨RJ7, "copyOf", "([Ljava/lang/Object;I)[Ljava/lang/Object;"⟩
abbrev cJ7_copyOf_6403c : ByteArray := prog_22_method_120_code
def yJ7_copyOf_6403c : MethodName := ⟨RJ7, "copyOf", "([Ljava/lang/Object;ILjava/lang/Class;)[Ljava/lang/Object;"⟩
def RJx5ef63 : String := "java/util/Collection"
def TJx5ef63 : u_T := fun k => match k with
  | _ => ("", "", "", false)
def tyJx5ef63 : Nat → FieldType := fun k => match k with
  | _ => .int
abbrev wsJx5ef630 : List Cond := u_ws RJx5ef63 TJx5ef63 0
theorem nmJx5ef63 : ∀ a, a < 0 → ∀ b, b < 0 → a ≠ b → (TJx5ef63 a).2.1 ≠ (TJx5ef63 b).2.1 := by decide +kernel
theorem tyJx5ef63_ok : ∀ k, k < 0 → parseFieldDescriptor (TJx5ef63 k).2.2.1 = some (tyJx5ef63 k) := by decide +kernel
def RJxbd725 : String := "java/util/List"
def TJxbd725 : u_T := fun k => match k with
  | _ => ("", "", "", false)
def tyJxbd725 : Nat → FieldType := fun k => match k with
  | _ => .int
abbrev wsJxbd7250 : List Cond := u_ws RJxbd725 TJxbd725 0
theorem nmJxbd725 : ∀ a, a < 0 → ∀ b, b < 0 → a ≠ b → (TJxbd725 a).2.1 ≠ (TJxbd725 b).2.1 := by decide +kernel
theorem tyJxbd725_ok : ∀ k, k < 0 → parseFieldDescriptor (TJxbd725 k).2.2.1 = some (tyJxbd725 k) := by decide +kernel
def RJ15 : String := "java/util/Objects"
def TJ15 : u_T := fun k => match k with
  | _ => ("", "", "", false)
def tyJ15 : Nat → FieldType := fun k => match k with
  | _ => .int
abbrev wsJ150 : List Cond := u_ws RJ15 TJ15 0
theorem nmJ15 : ∀ a, a < 0 → ∀ b, b < 0 → a ≠ b → (TJ15 a).2.1 ≠ (TJ15 b).2.1 := by decide +kernel
theorem tyJ15_ok : ∀ k, k < 0 → parseFieldDescriptor (TJ15 k).2.2.1 = some (tyJ15 k) := by decide +kernel
abbrev cJ15_checkIndex_7cf53 : ByteArray := prog_25_method_17_code
def yJ15_checkIndex_7cf53 : MethodName := ⟨RJ15, "checkIndex", "(II)I"⟩
def RJxf0a74 : String := "java/util/RandomAccess"
def TJxf0a74 : u_T := fun k => match k with
  | _ => ("", "", "", false)
def tyJxf0a74 : Nat → FieldType := fun k => match k with
  | _ => .int
abbrev wsJxf0a740 : List Cond := u_ws RJxf0a74 TJxf0a74 0
theorem nmJxf0a74 : ∀ a, a < 0 → ∀ b, b < 0 → a ≠ b → (TJxf0a74 a).2.1 ≠ (TJxf0a74 b).2.1 := by decide +kernel
theorem tyJxf0a74_ok : ∀ k, k < 0 → parseFieldDescriptor (TJxf0a74 k).2.2.1 = some (tyJxf0a74 k) := by decide +kernel
def RJxa66e6 : String := "java/util/SequencedCollection"
def TJxa66e6 : u_T := fun k => match k with
  | _ => ("", "", "", false)
def tyJxa66e6 : Nat → FieldType := fun k => match k with
  | _ => .int
abbrev wsJxa66e60 : List Cond := u_ws RJxa66e6 TJxa66e6 0
theorem nmJxa66e6 : ∀ a, a < 0 → ∀ b, b < 0 → a ≠ b → (TJxa66e6 a).2.1 ≠ (TJxa66e6 b).2.1 := by decide +kernel
theorem tyJxa66e6_ok : ∀ k, k < 0 → parseFieldDescriptor (TJxa66e6 k).2.2.1 = some (tyJxa66e6 k) := by decide +kernel
def RJ8 : String := "jdk/internal/util/ArraysSupport"
def TJ8 : u_T := fun k => match k with
  | _ => ("", "", "", false)
def tyJ8 : Nat → FieldType := fun k => match k with
  | _ => .int
abbrev wsJ80 : List Cond := u_ws RJ8 TJ8 0
theorem nmJ8 : ∀ a, a < 0 → ∀ b, b < 0 → a ≠ b → (TJ8 a).2.1 ≠ (TJ8 b).2.1 := by decide +kernel
theorem tyJ8_ok : ∀ k, k < 0 → parseFieldDescriptor (TJ8 k).2.2.1 = some (tyJ8 k) := by decide +kernel
abbrev cJ8_newLength_cabcc : ByteArray := prog_28_method_27_code
def yJ8_newLength_cabcc : MethodName := ⟨RJ8, "newLength", "(III)I"⟩
abbrev cJ8_hugeLength_7cf53 : ByteArray := prog_28_method_28_code
def yJ8_hugeLength_7cf53 : MethodName := ⟨RJ8, "hugeLength", "(II)I"⟩
def RJ3 : String := "jdk/internal/util/Preconditions"
def TJ3 : u_T := fun k => match k with
  | _ => ("", "", "", false)
def tyJ3 : Nat → FieldType := fun k => match k with
  | _ => .int
abbrev wsJ30 : List Cond := u_ws RJ3 TJ3 0
theorem nmJ3 : ∀ a, a < 0 → ∀ b, b < 0 → a ≠ b → (TJ3 a).2.1 ≠ (TJ3 b).2.1 := by decide +kernel
theorem tyJ3_ok : ∀ k, k < 0 → parseFieldDescriptor (TJ3 k).2.2.1 = some (tyJ3 k) := by decide +kernel
abbrev cJ3_checkIndex_8e157 : ByteArray := prog_29_method_11_code
def yJ3_checkIndex_8e157 : MethodName := ⟨RJ3, "checkIndex", "(IILjava/util/function/BiFunction;)I"⟩
def RL : String := "MadeMendedLaw"
abbrev cL_law : ByteArray := code
def yL_law : MethodName := ⟨RL, "law", "([I)Z"⟩
abbrev vwCl : List vw_C := [(RJx4a65c, TJx4a65c, 3), (RX0, TX0, 2), (RX1, TX1, 3), (RX2, TX2, 2), (RX3, TX3, 4), (RX4, TX4, 3), (RX5, TX5, 9), (RX6, TX6, 8), (RX7, TX7, 2), (RX8, TX8, 5), (RX9, TX9, 8), (RX10, TX10, 8), (RX11, TX11, 52)]
end
section
/-! the words that go along by the machine's tables, and are no good words -/
def aWk : Cond → Bool
  | .castable .. => true
  | .methodLinkNest .. => true
  | .declares _ => true
  | .arrayOver (.object _) => true
  | _ => false
theorem aNw_warm {s U : State} (hW : s.WarmedH U.vm) {w : Cond} (hw : aWk w = true) (h : va_Nw w s) : va_Nw w U := by
  cases w with
  | castable => exact va_Nw.warmC hW h
  | methodLinkNest => exact va_Nw.warmM hW h
  | declares => exact va_Nw.warmD hW h
  | arrayOver t => cases t <;> first | (exact va_AO.moved hW.alike h) | (simp [aWk] at hw)
  | _ => simp [aWk] at hw
/-- a method: its name, its bytes, how many variables, its answer's type -/
abbrev aM : Type := MethodName × ByteArray × Nat × Option FieldType
/-- the constants of a run: the numbers of classes and fields, of array kinds, the first free address, the script's address, the empty list's array, the mirror, the script's length and ints -/
abbrev aG : Type := va_G × (Nat → ClassId) × Nat × Nat × Nat × Nat × Nat × (Nat → Int32)
abbrev gD (G : aG) : va_G := G.1
abbrev gC (G : aG) : Nat → ClassId := G.2.1
abbrev gB (G : aG) : Nat := G.2.2.1
abbrev gb (G : aG) : Nat := G.2.2.2.1
abbrev ge (G : aG) : Nat := G.2.2.2.2.1
abbrev gm (G : aG) : Nat := G.2.2.2.2.2.1
abbrev gL (G : aG) : Nat := G.2.2.2.2.2.2.1
abbrev gX (G : aG) : Nat → Int32 := G.2.2.2.2.2.2.2
/-- the address of the cell that has number a here: 0 the script, 1 the empty array, 2 the mirror -/
def ad (G : aG) (a : Nat) : Nat := if a = 0 then gb G else if a = 1 then ge G else if a = 2 then gm G else gB G + (a - 3)
def tv (G : aG) : Value → Value
  | .ref a => .ref (ad G a)
  | v => v
def rv : Option Nat → Value
  | none => .null
  | some a => .ref a
theorem tv_rv (G : aG) (o : Option Nat) : tv G (rv o) = va_rf (o.map (ad G)) := by cases o <;> rfl
theorem ad_3 (G : aG) {a : Nat} (h : 3 ≤ a) : ad G a = gB G + (a - 3) := by
  unfold ad
  rw [if_neg (by omega), if_neg (by omega), if_neg (by omega)]
/-- the heap as fields by their numbers and addresses: how many cells; the kind of a cell; int fields; references; lengths; ints of rows; references of rows -/
abbrev aH : Type := Nat × (Nat → Nat) × (Nat → Nat → Int32) × (Nat → Nat → Option Nat) × (Nat → Nat) × (Nat → Nat → Int32) × (Nat → Nat → Option Nat)
def hN (h : aH) : Nat := h.1
def hK (h : aH) : Nat → Nat := h.2.1
def hI (h : aH) : Nat → Nat → Int32 := h.2.2.1
def hR (h : aH) : Nat → Nat → Option Nat := h.2.2.2.1
def hL (h : aH) : Nat → Nat := h.2.2.2.2.1
def hX (h : aH) : Nat → Nat → Int32 := h.2.2.2.2.2.1
def hY (h : aH) : Nat → Nat → Option Nat := h.2.2.2.2.2.2
def up1 {α : Type} (f : Nat → α) (a : Nat) (v : α) : Nat → α := fun b => if b = a then v else f b
def up2 {α : Type} (f : Nat → Nat → α) (k a : Nat) (v : α) : Nat → Nat → α := fun k' b => if k' = k then (if b = a then v else f k' b) else f k' b
def sI (h : aH) (k a : Nat) (v : Int32) : aH := (hN h, hK h, up2 (hI h) k a v, hR h, hL h, hX h, hY h)
def sR (h : aH) (k a : Nat) (v : Option Nat) : aH := (hN h, hK h, hI h, up2 (hR h) k a v, hL h, hX h, hY h)
def sX (h : aH) (a j : Nat) (v : Int32) : aH := (hN h, hK h, hI h, hR h, hL h, up2 (hX h) a j v, hY h)
def sY (h : aH) (a j : Nat) (v : Option Nat) : aH := (hN h, hK h, hI h, hR h, hL h, hX h, up2 (hY h) a j v)
def sXs (h : aH) (a : Nat) (f : Nat → Int32) : aH := (hN h, hK h, hI h, hR h, hL h, up1 (hX h) a f, hY h)
def sYs (h : aH) (a : Nat) (f : Nat → Option Nat) : aH := (hN h, hK h, hI h, hR h, hL h, hX h, up1 (hY h) a f)
/-- a new object of a kind: its number is hN h + 3 -/
def nO (h : aH) (ci : Nat) : aH := (hN h + 1, up1 (hK h) (hN h + 3) ci, fun k b => if b = hN h + 3 then 0 else hI h k b, fun k b => if b = hN h + 3 then none else hR h k b, hL h, hX h, hY h)
/-- a new row of a kind -/
def nA (h : aH) (kd n : Nat) : aH := (hN h + 1, up1 (hK h) (hN h + 3) kd, hI h, hR h, up1 (hL h) (hN h + 3) n, up1 (hX h) (hN h + 3) (fun _ => 0), up1 (hY h) (hN h + 3) (fun _ => none))
/-- the types of the fields of the kind ci -/
def fT : Nat → Nat → FieldType := fun ci => match ci with
  | 0 => tyJx4a65c
  | 1 => tyX0
  | 2 => tyX1
  | 3 => tyX2
  | 4 => tyX3
  | 5 => tyX4
  | 6 => tyX5
  | 7 => tyX6
  | 8 => tyX7
  | 9 => tyX8
  | 10 => tyX9
  | 11 => tyX10
  | _ => tyX11
def rfT (ty : FieldType) : Bool := match ty with
  | .object _ => true
  | .array _ => true
  | _ => false
def fn (ci : Nat) : Nat := match vwCl[ci]? with
  | some r => r.2.2
  | none => 0
def fv (G : aG) (h : aH) (ci j a : Nat) : Value := if rfT (fT ci j) = true then va_rf ((hR h (64 * ci + j) a).map (ad G)) else .int (hI h (64 * ci + j) a)
def aCl (G : aG) (h : aH) (a : Nat) : va_E :=
  if hK h a < 13 then .inr (hK h a, (List.range (fn (hK h a))).map (fun j => fv G h (hK h a) j a))
  else if hK h a < 15 then .inl (gC G (hK h a), hL h a, .inl (hX h a))
  else .inl (gC G (hK h a), hL h a, .inr (.inr (.inr (.inr (fun j => (hY h a j).map (ad G))))))
def wl (G : aG) (h : aH) : va_W := (List.range (hN h)).map (fun i => (gB G + i, aCl G h (i + 3)))
theorem wl_at (G : aG) (h : aH) (i : Nat) : (wl G h)[i]? = if i < hN h then some (gB G + i, aCl G h (i + 3)) else none := by
  unfold wl
  rw [List.getElem?_map]
  by_cases hi : i < hN h
  · rw [List.getElem?_range hi, if_pos hi]; rfl
  · rw [List.getElem?_eq_none (by simpa using hi), if_neg hi]; rfl
theorem wl_get (G : aG) {h : aH} {a : Nat} (h3 : 3 ≤ a) (hn : a < hN h + 3) : (wl G h)[a - 3]? = some (ad G a, aCl G h a) := by
  rw [wl_at, if_pos (by omega), ad_3 G h3, show a - 3 + 3 = a by omega]
theorem wl_len (G : aG) (h : aH) : (wl G h).length = hN h := by simp [wl]
theorem wl_set (G : aG) {h h' : aH} {a : Nat} (h3 : 3 ≤ a) (hn : a < hN h + 3) (e : hN h' = hN h) (o : ∀ b, b ≠ a → aCl G h' b = aCl G h b) : (wl G h).set (a - 3) (ad G a, aCl G h' a) = wl G h' := by
  apply List.ext_getElem?
  intro i
  rw [List.getElem?_set, wl_at, wl_at, wl_len, e]
  by_cases hi : a - 3 = i
  · subst hi
    rw [if_pos rfl, if_pos (by omega), if_pos (by omega), ad_3 G h3, show a - 3 + 3 = a by omega]
  · rw [if_neg hi]
    by_cases hl : i < hN h
    · rw [if_pos hl, if_pos hl, o (i + 3) (by omega)]
    · rw [if_neg hl, if_neg hl]
theorem wl_D (G : aG) (h : aH) : va_D (fun q => gB G ≤ q) (wl G h) := by
  refine ⟨fun i j p q hi hj e => ?_, fun k q hk => ?_⟩
  · rw [wl_at] at hi hj
    by_cases h1 : i < hN h
    · by_cases h2 : j < hN h
      · rw [if_pos h1] at hi; rw [if_pos h2] at hj
        cases hi; cases hj
        simp only at e
        omega
      · rw [if_neg h2] at hj; cases hj
    · rw [if_neg h1] at hi; cases hi
  · rw [wl_at] at hk
    by_cases h1 : k < hN h
    · rw [if_pos h1] at hk
      cases hk
      exact Nat.le_add_right _ _
    · rw [if_neg h1] at hk; cases hk
theorem wl_push (G : aG) {h h' : aH} (e : hN h' = hN h + 1) (o : ∀ b, b < hN h + 3 → aCl G h' b = aCl G h b) : wl G h ++ [(gB G + hN h, aCl G h' (hN h + 3))] = wl G h' := by
  apply List.ext_getElem?
  intro i
  rw [List.getElem?_append, wl_at, wl_at, wl_len, e]
  by_cases hl : i < hN h
  · rw [if_pos hl, if_pos hl, if_pos (by omega), o (i + 3) (by omega)]
  · rw [if_neg hl]
    by_cases h2 : i = hN h
    · subst h2
      rw [if_pos (by omega)]
      simp
    · rw [if_neg (by omega)]
      rw [List.getElem?_eq_none (by simp; omega)]
/-- what the machine's tables and first cells hold -/
def aTy (G : aG) : List (ClassId × FieldType) := [(gC G 13, .int), (gC G 14, .boolean), (gC G 15, .object "java/lang/Object"), (gC G 16, .object "MadeMended$Piece"), (gC G 17, .object "MadeMended$Rule"), (gC G 18, .object "MadeMended$Thing")]
def aWd (G : aG) (s : State) (H : Heap) : Prop := va_K (gD G) vwCl (aTy G) s ∧ va_X (gb G) (gL G) (gX G) s H ∧ gb G < gB G ∧ va_Z "java/util/ArrayList" "DEFAULTCAPACITY_EMPTY_ELEMENTDATA" "[Ljava/lang/Object;" (.ref (ge G)) (fun q => gB G ≤ q) s H ∧ va_T (.object "java/lang/Object") (ge G) 0 (fun _ => .null) (fun q => gB G ≤ q) s H ∧ va_Mi "[Ljava/lang/Object;" (gm G) s ∧ (∀ w ∈ lw_tbl, aWk w = true → va_Nw w s) ∧ gB G ≤ H.size ∧ ge G < gB G
theorem aWd.warm {G : aG} {s U : State} {H H1 : Heap} (hW : s.WarmedH U.vm) (hz : gB G ≤ H1.size) (hq : ∀ q, q < gB G → H1[q]? = H[q]?) (h : aWd G s H) : aWd G U H1 := by
  obtain ⟨h1, h2, h3, h4, h5, h6, h7, h8, h9⟩ := h
  refine ⟨va_K.moved hW.alike h1, (h2.kept (hq _ h3)).moved hW.alike, h3, (h4.kept (fun a _ ha => hq a (by omega))).moved hW.alike, (h5.kept (fun a _ ha => hq a (by omega))).moved hW.alike, h6.moved hW.alike, fun w hw hk => aNw_warm hW hk (h7 w hw hk), hz, h9⟩
end
section
/-! the machine at a place of a method, over the heap by fields -/
def aTs : List Cond := lw_tbl.filter goodWord
theorem aTs_mem {w : Cond} (i : Nat) (h : lw_tbl[i]? = some w) (hg : goodWord w = true) : w ∈ aTs := List.mem_filter.mpr ⟨List.mem_of_getElem? h, hg⟩
def aRp (G : aG) (h : aH) (H : Heap) : Prop := H.size = gB G + hN h ∧ va_P (gD G) vwCl (wl G h) H ∧ ∀ a, hK h a ≠ 99 → 3 ≤ a ∧ a < hN h + 3
def aQ (G : aG) (Q : Option Value → aH → Prop) : Array Value → State → Outcome → State → Prop := fun _ s0 oc t => ∃ (v : Option Value) (h' : aH), oc = .returned (v.map (tv G)) ∧ Q v h' ∧ aRp G h' t.heap ∧ (∀ q, q < gB G → t.heap[q]? = s0.heap[q]?) ∧ s0.heap.size ≤ t.heap.size
def okv : Value → Bool
  | .int _ => true
  | .ref _ => true
  | .null => true
  | _ => false
theorem okv_cat (G : aG) {v : Value} (h : okv v = true) : (tv G v).category = 1 := by cases v <;> first | rfl | (simp [okv] at h)
def aLv (G : aG) (lv : Array Slot) (n : Nat) (ls : List Value) : Prop := lv.size = n ∧ lv_wf lv ∧ ls.length ≤ n ∧ ∀ (i : Nat) (v : Value), ls[i]? = some v → okv v = true → lv[i]? = some (.val (tv G v))
def lp (G : aG) (ls : List Value) : List (Nat × Value) := (List.range ls.length).filterMap (fun i => match ls[i]? with
  | some v => if okv v = true then some (i, tv G v) else none
  | none => none)
theorem lp_mem {G : aG} {ls : List Value} {q : Nat × Value} : q ∈ lp G ls ↔ ∃ v, ls[q.1]? = some v ∧ okv v = true ∧ q.2 = tv G v := by
  unfold lp
  rw [List.mem_filterMap]
  constructor
  · rintro ⟨i, hi, hq⟩
    cases hv : ls[i]? with
    | none => rw [hv] at hq; cases hq
    | some v =>
      rw [hv] at hq
      by_cases ho : okv v = true
      · simp only [ho, if_true] at hq
        cases hq
        exact ⟨v, hv, ho, rfl⟩
      · simp only [ho] at hq
        cases hq
  · rintro ⟨v, hv, ho, hq⟩
    refine ⟨q.1, List.mem_range.mpr (List.getElem?_eq_some_iff.mp hv).1, ?_⟩
    rw [hv]
    simp only [ho, if_true]
    rw [← hq]
theorem aLv.has {G : aG} {lv : Array Slot} {n : Nat} {ls : List Value} (h : aLv G lv n ls) : lv_has lv n (lp G ls) := by
  refine ⟨h.1, h.2.1, fun q hq => ?_⟩
  obtain ⟨v, h1, h2, h3⟩ := lp_mem.mp hq
  rw [h3]
  exact h.2.2.2 q.1 v h1 h2
theorem aLv.put {G : aG} {lv lv' : Array Slot} {n i : Nat} {ls : List Value} {v : Value} (h : aLv G lv n ls) (hv : okv v = true) (hs : lv_has lv' n ((i, tv G v) :: (lp G ls).filter (fun q => !(q.1 == i) && !(q.1 + 1 == i && q.2.category == 2)))) : aLv G lv' n (ls.set i v) := by
  refine ⟨hs.1, hs.2.1, by rw [List.length_set]; exact h.2.2.1, fun j w hj hw => ?_⟩
  rw [List.getElem?_set] at hj
  by_cases hi : i = j
  · subst hi
    rw [if_pos rfl] at hj
    split at hj
    · cases hj
      exact hs.2.2 (i, tv G v) List.mem_cons_self
    · cases hj
  · rw [if_neg hi] at hj
    refine hs.2.2 (j, tv G w) (List.mem_cons_of_mem _ (List.mem_filter.mpr ⟨lp_mem.mpr ⟨w, hj, hw, rfl⟩, ?_⟩))
    have h1 : (tv G w).category = 1 := okv_cat G hw
    simp only [h1]
    simp [Ne.symm hi]
def aCx (G : aG) (M : aM) (p : Program) (s : State) (m : MethodId) (args : Array Value) (meth : Method) (c : Code) : Prop :=
  p.tables.exec = Jvm.exec ∧ c.code = M.2.1 ∧ c.maxLocals = M.2.2.1 ∧ meth.sig.returnType = M.2.2.2 ∧ s.vm.findClass M.1.cls = some m.cls ∧ (∀ w ∈ aTs, w.before args s = true) ∧ meth.locks = false ∧ (M.1.name = "<init>" → meth.name = "<init>") ∧ aWd G s s.heap
def Ev (l : Launch) (G : aG) (d mc ms : Nat) (M : aM) (pc : Nat) (ls st : List Value) (h : aH) (Q : Option Value → aH → Prop) : Prop :=
  ∀ (p : Program) (e : Env) (R : Room) (s : State) (m : MethodId) (args : Array Value) (below : List Frame) (meth : Method) (c : Code) (H : Heap) (locs : List Loc) (cells slots : Nat) (lv : Array Slot),
    aCx G M p s m args meth c → d ≤ R.frames → 40 * d ≤ R.locals → cells + mc ≤ R.cells → slots + ms ≤ R.slots → aRp G h H → va_S (fun q => gB G ≤ q) s.heap H locs → aLv G lv M.2.2.1 ls →
    W p l e R s m args below meth c H locs cells slots (MQ below (aQ G Q) args s R.cells R.slots (fun q => gB G ≤ q)) (F0 m pc lv (st.map (tv G)))
section EV
variable {l : Launch} {G : aG} {d mc ms : Nat} {M : aM} {pc : Nat} {ls st : List Value} {h : aH} {Q : Option Value → aH → Prop}
theorem Ev.wide {mc' ms' : Nat} (h1 : mc' ≤ mc) (h2 : ms' ≤ ms) (k : Ev l G d mc' ms' M pc ls st h Q) : Ev l G d mc ms M pc ls st h Q :=
  fun p e R s m args below meth c H locs cells slots lv C a1 a2 a3 a4 hP hS hl => k p e R s m args below meth c H locs cells slots lv C a1 a2 (by omega) (by omega) hP hS hl
theorem Ev.deep {d' : Nat} (h1 : d' ≤ d) (k : Ev l G d' mc ms M pc ls st h Q) : Ev l G d mc ms M pc ls st h Q :=
  fun p e R s m args below meth c H locs cells slots lv C a1 a2 a3 a4 hP hS hl => k p e R s m args below meth c H locs cells slots lv C (by omega) (by omega) a3 a4 hP hS hl
theorem Ev.post {Q' : Option Value → aH → Prop} (hq : ∀ v h', Q' v h' → Q v h') (k : Ev l G d mc ms M pc ls st h Q') : Ev l G d mc ms M pc ls st h Q := by
  intro p e R s m args below meth c H locs cells slots lv C a1 a2 a3 a4 hP hS hl T hT X
  obtain ⟨t, b1, o, b2, b3, ⟨v, h', b4, b5, b6⟩, b7⟩ := k p e R s m args below meth c H locs cells slots lv C a1 a2 a3 a4 hP hS hl T hT X
  exact ⟨t, b1, o, b2, b3, ⟨v, h', b4, hq v h' b5, b6⟩, b7⟩
theorem Ev_aload_n {k : Fin 4} {v : Value} (hdg : decode M.2.1 pc = .ok (.aload_n k, 1)) (hv : ls[(k : Nat)]? = some v) (hr : (v = .null ∨ ∃ a, v = .ref a)) (kk : Ev l G d mc ms M (pc + 1) ls (v :: st) h Q) : Ev l G d mc ms M pc ls st h Q := by
  intro p e R s m args below meth c H locs cells slots lv C a1 a2 a3 a4 hP hS hl
  rcases hr with rfl | ⟨a, rfl⟩
  · exact lv_aload_nN C.1 C.2.1 hdg rfl (hl.2.2.2 _ _ hv rfl) (kk p e R s m args below meth c H locs cells slots lv C a1 a2 a3 a4 hP hS hl)
  · exact lv_aload_n C.1 C.2.1 hdg rfl (hl.2.2.2 _ _ hv rfl) (kk p e R s m args below meth c H locs cells slots lv C a1 a2 a3 a4 hP hS hl)
theorem Ev_aload {k : Nat} {v : Value} (hdg : decode M.2.1 pc = .ok (.aload k, 2)) (hv : ls[(k : Nat)]? = some v) (hr : (v = .null ∨ ∃ a, v = .ref a)) (kk : Ev l G d mc ms M (pc + 2) ls (v :: st) h Q) : Ev l G d mc ms M pc ls st h Q := by
  intro p e R s m args below meth c H locs cells slots lv C a1 a2 a3 a4 hP hS hl
  rcases hr with rfl | ⟨a, rfl⟩
  · exact lv_aloadN C.1 C.2.1 hdg (hl.2.2.2 _ _ hv rfl) (kk p e R s m args below meth c H locs cells slots lv C a1 a2 a3 a4 hP hS hl)
  · exact lv_aload C.1 C.2.1 hdg (hl.2.2.2 _ _ hv rfl) (kk p e R s m args below meth c H locs cells slots lv C a1 a2 a3 a4 hP hS hl)
theorem Ev_iload_n {k : Fin 4} {x : Int32} (hdg : decode M.2.1 pc = .ok (.iload_n k, 1)) (hv : ls[(k : Nat)]? = some (.int x)) (kk : Ev l G d mc ms M (pc + 1) ls (.int x :: st) h Q) : Ev l G d mc ms M pc ls st h Q := by
  intro p e R s m args below meth c H locs cells slots lv C a1 a2 a3 a4 hP hS hl
  exact lv_iload_n C.1 C.2.1 hdg rfl (hl.2.2.2 _ _ hv rfl) (kk p e R s m args below meth c H locs cells slots lv C a1 a2 a3 a4 hP hS hl)
theorem Ev_iload {k : Nat} {x : Int32} (hdg : decode M.2.1 pc = .ok (.iload k, 2)) (hv : ls[k]? = some (.int x)) (kk : Ev l G d mc ms M (pc + 2) ls (.int x :: st) h Q) : Ev l G d mc ms M pc ls st h Q := by
  intro p e R s m args below meth c H locs cells slots lv C a1 a2 a3 a4 hP hS hl
  exact lv_iload C.1 C.2.1 hdg (hl.2.2.2 _ _ hv rfl) (kk p e R s m args below meth c H locs cells slots lv C a1 a2 a3 a4 hP hS hl)
theorem Ev_istore_n {k : Fin 4} {x : Int32} (hdg : decode M.2.1 pc = .ok (.istore_n k, 1)) (hk : (k : Nat) < M.2.2.1) (kk : Ev l G d mc ms M (pc + 1) (ls.set k (.int x)) st h Q) : Ev l G d mc ms M pc ls (.int x :: st) h Q := by
  intro p e R s m args below meth c H locs cells slots lv C a1 a2 a3 a4 hP hS hl
  exact lv_istore_n C.1 C.2.1 hdg rfl hl.has hk rfl (fun lv' hl' => kk p e R s m args below meth c H locs cells slots lv' C a1 a2 a3 a4 hP hS (hl.put (v := .int x) rfl hl'))
theorem Ev_istore {k : Nat} {x : Int32} (hdg : decode M.2.1 pc = .ok (.istore k, 2)) (hk : (k : Nat) < M.2.2.1) (kk : Ev l G d mc ms M (pc + 2) (ls.set k (.int x)) st h Q) : Ev l G d mc ms M pc ls (.int x :: st) h Q := by
  intro p e R s m args below meth c H locs cells slots lv C a1 a2 a3 a4 hP hS hl
  exact lv_istore C.1 C.2.1 hdg hl.has hk rfl (fun lv' hl' => kk p e R s m args below meth c H locs cells slots lv' C a1 a2 a3 a4 hP hS (hl.put (v := .int x) rfl hl'))
theorem Ev_astore_n {k : Fin 4} {v : Value} (hdg : decode M.2.1 pc = .ok (.astore_n k, 1)) (hk : (k : Nat) < M.2.2.1) (hr : (v = .null ∨ ∃ a, v = .ref a)) (kk : Ev l G d mc ms M (pc + 1) (ls.set k v) st h Q) : Ev l G d mc ms M pc ls (v :: st) h Q := by
  intro p e R s m args below meth c H locs cells slots lv C a1 a2 a3 a4 hP hS hl
  rcases hr with rfl | ⟨a, rfl⟩
  · exact lv_astore_nN C.1 C.2.1 hdg rfl hl.has hk rfl (fun lv' hl' => kk p e R s m args below meth c H locs cells slots lv' C a1 a2 a3 a4 hP hS (hl.put (v := .null) rfl hl'))
  · exact lv_astore_n C.1 C.2.1 hdg rfl hl.has hk rfl (fun lv' hl' => kk p e R s m args below meth c H locs cells slots lv' C a1 a2 a3 a4 hP hS (hl.put (v := .ref a) rfl hl'))
theorem Ev_astore {k : Nat} {v : Value} (hdg : decode M.2.1 pc = .ok (.astore k, 2)) (hk : (k : Nat) < M.2.2.1) (hr : (v = .null ∨ ∃ a, v = .ref a)) (kk : Ev l G d mc ms M (pc + 2) (ls.set k v) st h Q) : Ev l G d mc ms M pc ls (v :: st) h Q := by
  intro p e R s m args below meth c H locs cells slots lv C a1 a2 a3 a4 hP hS hl
  rcases hr with rfl | ⟨a, rfl⟩
  · exact lv_astoreN C.1 C.2.1 hdg hl.has hk rfl (fun lv' hl' => kk p e R s m args below meth c H locs cells slots lv' C a1 a2 a3 a4 hP hS (hl.put (v := .null) rfl hl'))
  · exact lv_astore C.1 C.2.1 hdg hl.has hk rfl (fun lv' hl' => kk p e R s m args below meth c H locs cells slots lv' C a1 a2 a3 a4 hP hS (hl.put (v := .ref a) rfl hl'))
theorem Ev_iinc {k : Nat} {n : Int} {x v : Int32} (hdg : decode M.2.1 pc = .ok (.iinc k n, 3)) (hk : (k : Nat) < M.2.2.1) (hx : ls[k]? = some (.int x)) (hv : x + Int32.ofInt n = v) (kk : Ev l G d mc ms M (pc + 3) (ls.set k (.int v)) st h Q) : Ev l G d mc ms M pc ls st h Q := by
  intro p e R s m args below meth c H locs cells slots lv C a1 a2 a3 a4 hP hS hl
  obtain ⟨q, hq⟩ := List.getElem?_of_mem (lp_mem.mpr ⟨.int x, hx, rfl, rfl⟩ : (k, Value.int x) ∈ lp G ls)
  exact lv_iinc C.1 C.2.1 hdg hl.has (k := q) hq hv hk rfl (fun lv' hl' => kk p e R s m args below meth c H locs cells slots lv' C a1 a2 a3 a4 hP hS (hl.put (v := .int v) rfl hl'))
end EV
end
section
section EV
variable {l : Launch} {G : aG} {d mc ms : Nat} {M : aM} {pc : Nat} {ls st : List Value} {h : aH} {Q : Option Value → aH → Prop}

theorem Ev_iconst {n : Int} {v : Int32} (hdg : decode M.2.1 pc = .ok (.iconst n, 1)) (hv : Int32.ofInt n = v) (kk : Ev l G d mc ms M (pc + 1) ls (.int v :: st) h Q) : Ev l G d mc ms M pc ls st h Q := by
  intro p e R s m args below meth c H locs cells slots lv C a1 a2 a3 a4 hP hS hl
  exact lv_iconst C.1 C.2.1 hdg hv (kk p e R s m args below meth c H locs cells slots lv C a1 a2 a3 a4 hP hS hl)

theorem Ev_bipush {n : Int} {v : Int32} (hdg : decode M.2.1 pc = .ok (.bipush n, 2)) (hv : (Int8.ofInt n).toInt32 = v) (kk : Ev l G d mc ms M (pc + 2) ls (.int v :: st) h Q) : Ev l G d mc ms M pc ls st h Q := by
  intro p e R s m args below meth c H locs cells slots lv C a1 a2 a3 a4 hP hS hl
  exact lv_bipush C.1 C.2.1 hdg hv (kk p e R s m args below meth c H locs cells slots lv C a1 a2 a3 a4 hP hS hl)

theorem Ev_sipush {n : Int} {v : Int32} (hdg : decode M.2.1 pc = .ok (.sipush n, 3)) (hv : (Int16.ofInt n).toInt32 = v) (kk : Ev l G d mc ms M (pc + 3) ls (.int v :: st) h Q) : Ev l G d mc ms M pc ls st h Q := by
  intro p e R s m args below meth c H locs cells slots lv C a1 a2 a3 a4 hP hS hl
  exact lv_sipush C.1 C.2.1 hdg hv (kk p e R s m args below meth c H locs cells slots lv C a1 a2 a3 a4 hP hS hl)

theorem Ev_null (hdg : decode M.2.1 pc = .ok (.aconst_null, 1)) (kk : Ev l G d mc ms M (pc + 1) ls (.null :: st) h Q) : Ev l G d mc ms M pc ls st h Q := by
  intro p e R s m args below meth c H locs cells slots lv C a1 a2 a3 a4 hP hS hl
  exact lv_null C.1 C.2.1 hdg (kk p e R s m args below meth c H locs cells slots lv C a1 a2 a3 a4 hP hS hl)

theorem Ev_iadd {x y : Int32} (hdg : decode M.2.1 pc = .ok (.iadd, 1)) (kk : Ev l G d mc ms M (pc + 1) ls (.int (x + y) :: st) h Q) : Ev l G d mc ms M pc ls (.int y :: .int x :: st) h Q := by
  intro p e R s m args below meth c H locs cells slots lv C a1 a2 a3 a4 hP hS hl
  exact lv_iadd C.1 C.2.1 hdg (kk p e R s m args below meth c H locs cells slots lv C a1 a2 a3 a4 hP hS hl)

theorem Ev_isub {x y : Int32} (hdg : decode M.2.1 pc = .ok (.isub, 1)) (kk : Ev l G d mc ms M (pc + 1) ls (.int (x - y) :: st) h Q) : Ev l G d mc ms M pc ls (.int y :: .int x :: st) h Q := by
  intro p e R s m args below meth c H locs cells slots lv C a1 a2 a3 a4 hP hS hl
  exact lv_isub C.1 C.2.1 hdg (kk p e R s m args below meth c H locs cells slots lv C a1 a2 a3 a4 hP hS hl)

theorem Ev_imul {x y : Int32} (hdg : decode M.2.1 pc = .ok (.imul, 1)) (kk : Ev l G d mc ms M (pc + 1) ls (.int (x * y) :: st) h Q) : Ev l G d mc ms M pc ls (.int y :: .int x :: st) h Q := by
  intro p e R s m args below meth c H locs cells slots lv C a1 a2 a3 a4 hP hS hl
  exact lv_imul C.1 C.2.1 hdg (kk p e R s m args below meth c H locs cells slots lv C a1 a2 a3 a4 hP hS hl)

theorem Ev_iand {x y : Int32} (hdg : decode M.2.1 pc = .ok (.iand, 1)) (kk : Ev l G d mc ms M (pc + 1) ls (.int (x &&& y) :: st) h Q) : Ev l G d mc ms M pc ls (.int y :: .int x :: st) h Q := by
  intro p e R s m args below meth c H locs cells slots lv C a1 a2 a3 a4 hP hS hl
  exact lv_iand C.1 C.2.1 hdg (kk p e R s m args below meth c H locs cells slots lv C a1 a2 a3 a4 hP hS hl)

theorem Ev_ishr {x y : Int32} (hdg : decode M.2.1 pc = .ok (.ishr, 1)) (kk : Ev l G d mc ms M (pc + 1) ls (.int (x >>> (y &&& 31)) :: st) h Q) : Ev l G d mc ms M pc ls (.int y :: .int x :: st) h Q := by
  intro p e R s m args below meth c H locs cells slots lv C a1 a2 a3 a4 hP hS hl
  exact lv_ishr C.1 C.2.1 hdg (kk p e R s m args below meth c H locs cells slots lv C a1 a2 a3 a4 hP hS hl)

theorem Ev_iushr {x y : Int32} (hdg : decode M.2.1 pc = .ok (.iushr, 1)) (kk : Ev l G d mc ms M (pc + 1) ls (.int ((x.toUInt32 >>> (y.toUInt32 &&& Int32.toUInt32 31)).toInt32) :: st) h Q) : Ev l G d mc ms M pc ls (.int y :: .int x :: st) h Q := by
  intro p e R s m args below meth c H locs cells slots lv C a1 a2 a3 a4 hP hS hl
  exact lv_iushr C.1 C.2.1 hdg rfl (kk p e R s m args below meth c H locs cells slots lv C a1 a2 a3 a4 hP hS hl)

theorem Ev_idiv {x y : Int32} (hdg : decode M.2.1 pc = .ok (.idiv, 1)) (hne : ¬ y = 0) (kk : Ev l G d mc ms M (pc + 1) ls (.int (x / y) :: st) h Q) : Ev l G d mc ms M pc ls (.int y :: .int x :: st) h Q := by
  intro p e R s m args below meth c H locs cells slots lv C a1 a2 a3 a4 hP hS hl
  exact lv_idiv C.1 C.2.1 hdg hne (kk p e R s m args below meth c H locs cells slots lv C a1 a2 a3 a4 hP hS hl)

theorem Ev_irem {x y : Int32} (hdg : decode M.2.1 pc = .ok (.irem, 1)) (hne : ¬ y = 0) (kk : Ev l G d mc ms M (pc + 1) ls (.int (x - x / y * y) :: st) h Q) : Ev l G d mc ms M pc ls (.int y :: .int x :: st) h Q := by
  intro p e R s m args below meth c H locs cells slots lv C a1 a2 a3 a4 hP hS hl
  exact lv_irem C.1 C.2.1 hdg hne (kk p e R s m args below meth c H locs cells slots lv C a1 a2 a3 a4 hP hS hl)

theorem Ev_dup {v : Value} (hdg : decode M.2.1 pc = .ok (.dup, 1)) (hv : okv v = true) (kk : Ev l G d mc ms M (pc + 1) ls (v :: v :: st) h Q) : Ev l G d mc ms M pc ls (v :: st) h Q := by
  intro p e R s m args below meth c H locs cells slots lv C a1 a2 a3 a4 hP hS hl
  exact lv_dup C.1 C.2.1 hdg (okv_cat G hv) (kk p e R s m args below meth c H locs cells slots lv C a1 a2 a3 a4 hP hS hl)

theorem Ev_pop {v : Value} (hdg : decode M.2.1 pc = .ok (.pop, 1)) (hv : okv v = true) (kk : Ev l G d mc ms M (pc + 1) ls st h Q) : Ev l G d mc ms M pc ls (v :: st) h Q := by
  intro p e R s m args below meth c H locs cells slots lv C a1 a2 a3 a4 hP hS hl
  exact lv_pop C.1 C.2.1 hdg (okv_cat G hv) (kk p e R s m args below meth c H locs cells slots lv C a1 a2 a3 a4 hP hS hl)

theorem Ev_dup_x1 {v w : Value} (hdg : decode M.2.1 pc = .ok (.dup_x1, 1)) (hv : okv v = true) (hw : okv w = true) (kk : Ev l G d mc ms M (pc + 1) ls (v :: w :: v :: st) h Q) : Ev l G d mc ms M pc ls (v :: w :: st) h Q := by
  intro p e R s m args below meth c H locs cells slots lv C a1 a2 a3 a4 hP hS hl
  exact lv_dup_x1 C.1 C.2.1 hdg (okv_cat G hv) (okv_cat G hw) (kk p e R s m args below meth c H locs cells slots lv C a1 a2 a3 a4 hP hS hl)

theorem Ev_dup2 {v w : Value} (hdg : decode M.2.1 pc = .ok (.dup2, 1)) (hv : okv v = true) (hw : okv w = true) (kk : Ev l G d mc ms M (pc + 1) ls (v :: w :: v :: w :: st) h Q) : Ev l G d mc ms M pc ls (v :: w :: st) h Q := by
  intro p e R s m args below meth c H locs cells slots lv C a1 a2 a3 a4 hP hS hl
  exact lv_dup2_11 C.1 C.2.1 hdg (okv_cat G hv) (okv_cat G hw) (kk p e R s m args below meth c H locs cells slots lv C a1 a2 a3 a4 hP hS hl)

theorem Ev_icmp_eq {x y : Int32} {off : Int} (tgt : Nat) (hdg : decode M.2.1 pc = .ok (.if_icmp .eq off, 3)) (ht : (pc : Int) + off = (tgt : Int)) (kt : x = y → Ev l G d mc ms M tgt ls st h Q) (kf : ¬ x = y → Ev l G d mc ms M (pc + 3) ls st h Q) : Ev l G d mc ms M pc ls (.int y :: .int x :: st) h Q := by
  intro p e R s m args below meth c H locs cells slots lv C a1 a2 a3 a4 hP hS hl
  exact lv_icmp_eq C.1 C.2.1 hdg ht (fun z => kt z p e R s m args below meth c H locs cells slots lv C a1 a2 a3 a4 hP hS hl) (fun z => kf z p e R s m args below meth c H locs cells slots lv C a1 a2 a3 a4 hP hS hl)

theorem Ev_if_eq {x : Int32} {off : Int} (tgt : Nat) (hdg : decode M.2.1 pc = .ok (.ifCond .eq off, 3)) (ht : (pc : Int) + off = (tgt : Int)) (kt : x = 0 → Ev l G d mc ms M tgt ls st h Q) (kf : ¬ x = 0 → Ev l G d mc ms M (pc + 3) ls st h Q) : Ev l G d mc ms M pc ls (.int x :: st) h Q := by
  intro p e R s m args below meth c H locs cells slots lv C a1 a2 a3 a4 hP hS hl
  exact lv_if_eq C.1 C.2.1 hdg ht (fun z => kt z p e R s m args below meth c H locs cells slots lv C a1 a2 a3 a4 hP hS hl) (fun z => kf z p e R s m args below meth c H locs cells slots lv C a1 a2 a3 a4 hP hS hl)

theorem Ev_icmp_ne {x y : Int32} {off : Int} (tgt : Nat) (hdg : decode M.2.1 pc = .ok (.if_icmp .ne off, 3)) (ht : (pc : Int) + off = (tgt : Int)) (kt : ¬ x = y → Ev l G d mc ms M tgt ls st h Q) (kf : x = y → Ev l G d mc ms M (pc + 3) ls st h Q) : Ev l G d mc ms M pc ls (.int y :: .int x :: st) h Q := by
  intro p e R s m args below meth c H locs cells slots lv C a1 a2 a3 a4 hP hS hl
  exact lv_icmp_ne C.1 C.2.1 hdg ht (fun z => kt z p e R s m args below meth c H locs cells slots lv C a1 a2 a3 a4 hP hS hl) (fun z => kf z p e R s m args below meth c H locs cells slots lv C a1 a2 a3 a4 hP hS hl)

theorem Ev_if_ne {x : Int32} {off : Int} (tgt : Nat) (hdg : decode M.2.1 pc = .ok (.ifCond .ne off, 3)) (ht : (pc : Int) + off = (tgt : Int)) (kt : ¬ x = 0 → Ev l G d mc ms M tgt ls st h Q) (kf : x = 0 → Ev l G d mc ms M (pc + 3) ls st h Q) : Ev l G d mc ms M pc ls (.int x :: st) h Q := by
  intro p e R s m args below meth c H locs cells slots lv C a1 a2 a3 a4 hP hS hl
  exact lv_if_ne C.1 C.2.1 hdg ht (fun z => kt z p e R s m args below meth c H locs cells slots lv C a1 a2 a3 a4 hP hS hl) (fun z => kf z p e R s m args below meth c H locs cells slots lv C a1 a2 a3 a4 hP hS hl)

theorem Ev_icmp_lt {x y : Int32} {off : Int} (tgt : Nat) (hdg : decode M.2.1 pc = .ok (.if_icmp .lt off, 3)) (ht : (pc : Int) + off = (tgt : Int)) (kt : x < y → Ev l G d mc ms M tgt ls st h Q) (kf : ¬ x < y → Ev l G d mc ms M (pc + 3) ls st h Q) : Ev l G d mc ms M pc ls (.int y :: .int x :: st) h Q := by
  intro p e R s m args below meth c H locs cells slots lv C a1 a2 a3 a4 hP hS hl
  exact lv_icmp_lt C.1 C.2.1 hdg ht (fun z => kt z p e R s m args below meth c H locs cells slots lv C a1 a2 a3 a4 hP hS hl) (fun z => kf z p e R s m args below meth c H locs cells slots lv C a1 a2 a3 a4 hP hS hl)

theorem Ev_if_lt {x : Int32} {off : Int} (tgt : Nat) (hdg : decode M.2.1 pc = .ok (.ifCond .lt off, 3)) (ht : (pc : Int) + off = (tgt : Int)) (kt : x < 0 → Ev l G d mc ms M tgt ls st h Q) (kf : ¬ x < 0 → Ev l G d mc ms M (pc + 3) ls st h Q) : Ev l G d mc ms M pc ls (.int x :: st) h Q := by
  intro p e R s m args below meth c H locs cells slots lv C a1 a2 a3 a4 hP hS hl
  exact lv_if_lt C.1 C.2.1 hdg ht (fun z => kt z p e R s m args below meth c H locs cells slots lv C a1 a2 a3 a4 hP hS hl) (fun z => kf z p e R s m args below meth c H locs cells slots lv C a1 a2 a3 a4 hP hS hl)

theorem Ev_icmp_ge {x y : Int32} {off : Int} (tgt : Nat) (hdg : decode M.2.1 pc = .ok (.if_icmp .ge off, 3)) (ht : (pc : Int) + off = (tgt : Int)) (kt : y ≤ x → Ev l G d mc ms M tgt ls st h Q) (kf : ¬ y ≤ x → Ev l G d mc ms M (pc + 3) ls st h Q) : Ev l G d mc ms M pc ls (.int y :: .int x :: st) h Q := by
  intro p e R s m args below meth c H locs cells slots lv C a1 a2 a3 a4 hP hS hl
  exact lv_icmp_ge C.1 C.2.1 hdg ht (fun z => kt z p e R s m args below meth c H locs cells slots lv C a1 a2 a3 a4 hP hS hl) (fun z => kf z p e R s m args below meth c H locs cells slots lv C a1 a2 a3 a4 hP hS hl)

theorem Ev_if_ge {x : Int32} {off : Int} (tgt : Nat) (hdg : decode M.2.1 pc = .ok (.ifCond .ge off, 3)) (ht : (pc : Int) + off = (tgt : Int)) (kt : 0 ≤ x → Ev l G d mc ms M tgt ls st h Q) (kf : ¬ 0 ≤ x → Ev l G d mc ms M (pc + 3) ls st h Q) : Ev l G d mc ms M pc ls (.int x :: st) h Q := by
  intro p e R s m args below meth c H locs cells slots lv C a1 a2 a3 a4 hP hS hl
  exact lv_if_ge C.1 C.2.1 hdg ht (fun z => kt z p e R s m args below meth c H locs cells slots lv C a1 a2 a3 a4 hP hS hl) (fun z => kf z p e R s m args below meth c H locs cells slots lv C a1 a2 a3 a4 hP hS hl)

theorem Ev_icmp_gt {x y : Int32} {off : Int} (tgt : Nat) (hdg : decode M.2.1 pc = .ok (.if_icmp .gt off, 3)) (ht : (pc : Int) + off = (tgt : Int)) (kt : y < x → Ev l G d mc ms M tgt ls st h Q) (kf : ¬ y < x → Ev l G d mc ms M (pc + 3) ls st h Q) : Ev l G d mc ms M pc ls (.int y :: .int x :: st) h Q := by
  intro p e R s m args below meth c H locs cells slots lv C a1 a2 a3 a4 hP hS hl
  exact lv_icmp_gt C.1 C.2.1 hdg ht (fun z => kt z p e R s m args below meth c H locs cells slots lv C a1 a2 a3 a4 hP hS hl) (fun z => kf z p e R s m args below meth c H locs cells slots lv C a1 a2 a3 a4 hP hS hl)

theorem Ev_if_gt {x : Int32} {off : Int} (tgt : Nat) (hdg : decode M.2.1 pc = .ok (.ifCond .gt off, 3)) (ht : (pc : Int) + off = (tgt : Int)) (kt : 0 < x → Ev l G d mc ms M tgt ls st h Q) (kf : ¬ 0 < x → Ev l G d mc ms M (pc + 3) ls st h Q) : Ev l G d mc ms M pc ls (.int x :: st) h Q := by
  intro p e R s m args below meth c H locs cells slots lv C a1 a2 a3 a4 hP hS hl
  exact lv_if_gt C.1 C.2.1 hdg ht (fun z => kt z p e R s m args below meth c H locs cells slots lv C a1 a2 a3 a4 hP hS hl) (fun z => kf z p e R s m args below meth c H locs cells slots lv C a1 a2 a3 a4 hP hS hl)

theorem Ev_icmp_le {x y : Int32} {off : Int} (tgt : Nat) (hdg : decode M.2.1 pc = .ok (.if_icmp .le off, 3)) (ht : (pc : Int) + off = (tgt : Int)) (kt : x ≤ y → Ev l G d mc ms M tgt ls st h Q) (kf : ¬ x ≤ y → Ev l G d mc ms M (pc + 3) ls st h Q) : Ev l G d mc ms M pc ls (.int y :: .int x :: st) h Q := by
  intro p e R s m args below meth c H locs cells slots lv C a1 a2 a3 a4 hP hS hl
  exact lv_icmp_le C.1 C.2.1 hdg ht (fun z => kt z p e R s m args below meth c H locs cells slots lv C a1 a2 a3 a4 hP hS hl) (fun z => kf z p e R s m args below meth c H locs cells slots lv C a1 a2 a3 a4 hP hS hl)

theorem Ev_if_le {x : Int32} {off : Int} (tgt : Nat) (hdg : decode M.2.1 pc = .ok (.ifCond .le off, 3)) (ht : (pc : Int) + off = (tgt : Int)) (kt : x ≤ 0 → Ev l G d mc ms M tgt ls st h Q) (kf : ¬ x ≤ 0 → Ev l G d mc ms M (pc + 3) ls st h Q) : Ev l G d mc ms M pc ls (.int x :: st) h Q := by
  intro p e R s m args below meth c H locs cells slots lv C a1 a2 a3 a4 hP hS hl
  exact lv_if_le C.1 C.2.1 hdg ht (fun z => kt z p e R s m args below meth c H locs cells slots lv C a1 a2 a3 a4 hP hS hl) (fun z => kf z p e R s m args below meth c H locs cells slots lv C a1 a2 a3 a4 hP hS hl)

theorem Ev_goto {off : Int} (tgt : Nat) (hdg : decode M.2.1 pc = .ok (.goto off, 3)) (ht : (pc : Int) + off = (tgt : Int)) (kk : Ev l G d mc ms M tgt ls st h Q) : Ev l G d mc ms M pc ls st h Q := by
  intro p e R s m args below meth c H locs cells slots lv C a1 a2 a3 a4 hP hS hl
  exact lv_goto C.1 C.2.1 hdg ht (kk p e R s m args below meth c H locs cells slots lv C a1 a2 a3 a4 hP hS hl)

theorem Ev_ifnull {o : Option Nat} {off : Int} (tgt : Nat) (hdg : decode M.2.1 pc = .ok (.ifnull off, 3)) (ht : (pc : Int) + off = (tgt : Int)) (kt : o = none → Ev l G d mc ms M tgt ls st h Q) (kf : ∀ a, o = some a → Ev l G d mc ms M (pc + 3) ls st h Q) : Ev l G d mc ms M pc ls (rv o :: st) h Q := by
  intro p e R s m args below meth c H locs cells slots lv C a1 a2 a3 a4 hP hS hl
  cases o with
  | none => exact lv_ifnullN C.1 C.2.1 hdg ht (kt rfl p e R s m args below meth c H locs cells slots lv C a1 a2 a3 a4 hP hS hl)
  | some a => exact lv_ifnull C.1 C.2.1 hdg (kf a rfl p e R s m args below meth c H locs cells slots lv C a1 a2 a3 a4 hP hS hl)

theorem Ev_ifnonnull {o : Option Nat} {off : Int} (tgt : Nat) (hdg : decode M.2.1 pc = .ok (.ifnonnull off, 3)) (ht : (pc : Int) + off = (tgt : Int)) (kt : ∀ a, o = some a → Ev l G d mc ms M tgt ls st h Q) (kf : o = none → Ev l G d mc ms M (pc + 3) ls st h Q) : Ev l G d mc ms M pc ls (rv o :: st) h Q := by
  intro p e R s m args below meth c H locs cells slots lv C a1 a2 a3 a4 hP hS hl
  cases o with
  | none => exact lv_ifnonnullN C.1 C.2.1 hdg (kf rfl p e R s m args below meth c H locs cells slots lv C a1 a2 a3 a4 hP hS hl)
  | some a => exact lv_ifnonnull C.1 C.2.1 hdg ht (kt a rfl p e R s m args below meth c H locs cells slots lv C a1 a2 a3 a4 hP hS hl)

theorem ad_inj (G : aG) {s : State} {H : Heap} (hW : aWd G s H) {a b : Nat} (ha : a = 1 ∨ 3 ≤ a) (hb : b = 1 ∨ 3 ≤ b) (e : ad G a = ad G b) : a = b := by
  have h9 : ge G < gB G := hW.2.2.2.2.2.2.2.2
  rcases ha with rfl | ha <;> rcases hb with rfl | hb
  · rfl
  · rw [ad_3 G hb] at e
    have : ad G 1 = ge G := rfl
    omega
  · rw [ad_3 G ha] at e
    have : ad G 1 = ge G := rfl
    omega
  · rw [ad_3 G ha, ad_3 G hb] at e
    omega
theorem ad_injO (G : aG) {s : State} {H : Heap} (hW : aWd G s H) {x y : Option Nat} (hx : ∀ a, x = some a → a = 1 ∨ 3 ≤ a) (hy : ∀ a, y = some a → a = 1 ∨ 3 ≤ a) : x.map (ad G) = y.map (ad G) ↔ x = y := by
  constructor
  · intro e
    cases x <;> cases y
    · rfl
    · cases e
    · cases e
    · exact congrArg some (ad_inj G hW (hx _ rfl) (hy _ rfl) (Option.some.inj e))
  · intro e; rw [e]

theorem Ev_acmp_eq {x y : Option Nat} {off : Int} (tgt : Nat) (hdg : decode M.2.1 pc = .ok (.if_acmp .eq off, 3)) (ht : (pc : Int) + off = (tgt : Int)) (hx : ∀ a, x = some a → a = 1 ∨ 3 ≤ a) (hy : ∀ a, y = some a → a = 1 ∨ 3 ≤ a) (kt : x = y → Ev l G d mc ms M tgt ls st h Q) (kf : ¬ x = y → Ev l G d mc ms M (pc + 3) ls st h Q) : Ev l G d mc ms M pc ls (rv y :: rv x :: st) h Q := by
  intro p e R s m args below meth c H locs cells slots lv C a1 a2 a3 a4 hP hS hl
  have E := ad_injO G C.2.2.2.2.2.2.2.2 hx hy
  have Z : List.map (tv G) (rv y :: rv x :: st) = va_rf (y.map (ad G)) :: va_rf (x.map (ad G)) :: st.map (tv G) := by
    rw [← tv_rv, ← tv_rv]; rfl
  rw [Z]
  exact lv_acmp_eq (rx := x.map (ad G)) (ry := y.map (ad G)) C.1 C.2.1 hdg ht (fun z => kt (E.mp z) p e R s m args below meth c H locs cells slots lv C a1 a2 a3 a4 hP hS hl) (fun z => kf (fun q => z (E.mpr q)) p e R s m args below meth c H locs cells slots lv C a1 a2 a3 a4 hP hS hl)

theorem Ev_acmp_ne {x y : Option Nat} {off : Int} (tgt : Nat) (hdg : decode M.2.1 pc = .ok (.if_acmp .ne off, 3)) (ht : (pc : Int) + off = (tgt : Int)) (hx : ∀ a, x = some a → a = 1 ∨ 3 ≤ a) (hy : ∀ a, y = some a → a = 1 ∨ 3 ≤ a) (kt : ¬ x = y → Ev l G d mc ms M tgt ls st h Q) (kf : x = y → Ev l G d mc ms M (pc + 3) ls st h Q) : Ev l G d mc ms M pc ls (rv y :: rv x :: st) h Q := by
  intro p e R s m args below meth c H locs cells slots lv C a1 a2 a3 a4 hP hS hl
  have E := ad_injO G C.2.2.2.2.2.2.2.2 hx hy
  have Z : List.map (tv G) (rv y :: rv x :: st) = va_rf (y.map (ad G)) :: va_rf (x.map (ad G)) :: st.map (tv G) := by
    rw [← tv_rv, ← tv_rv]; rfl
  rw [Z]
  exact lv_acmp_ne (rx := x.map (ad G)) (ry := y.map (ad G)) C.1 C.2.1 hdg ht (fun z => kt (fun q => z (E.mpr q)) p e R s m args below meth c H locs cells slots lv C a1 a2 a3 a4 hP hS hl) (fun z => kf (E.mp z) p e R s m args below meth c H locs cells slots lv C a1 a2 a3 a4 hP hS hl)

theorem Ev_tableIn {dflt lo hi : Int} {offs : Array Int} {len : Nat} {x : Int32} {off : Int} (tgt : Nat) (hdg : decode M.2.1 pc = .ok (.tableswitch dflt lo hi offs, len)) (h1 : ¬ x.toInt < lo) (h2 : ¬ hi < x.toInt) (ho : offs[(x.toInt - lo).toNat]? = some off) (ht : (pc : Int) + off = (tgt : Int)) (kk : Ev l G d mc ms M tgt ls st h Q) : Ev l G d mc ms M pc ls (.int x :: st) h Q := by
  intro p e R s m args below meth c H locs cells slots lv C a1 a2 a3 a4 hP hS hl
  exact lv_tableIn C.1 C.2.1 hdg h1 h2 ho ht (kk p e R s m args below meth c H locs cells slots lv C a1 a2 a3 a4 hP hS hl)

theorem Ev_tableOut {dflt lo hi : Int} {offs : Array Int} {len : Nat} {x : Int32} (tgt : Nat) (hdg : decode M.2.1 pc = .ok (.tableswitch dflt lo hi offs, len)) (h1 : x.toInt < lo ∨ hi < x.toInt) (ht : (pc : Int) + dflt = (tgt : Int)) (kk : Ev l G d mc ms M tgt ls st h Q) : Ev l G d mc ms M pc ls (.int x :: st) h Q := by
  intro p e R s m args below meth c H locs cells slots lv C a1 a2 a3 a4 hP hS hl
  exact lv_tableOut C.1 C.2.1 hdg h1 ht (kk p e R s m args below meth c H locs cells slots lv C a1 a2 a3 a4 hP hS hl)

theorem Ev_lookup {dflt : Int} {ps : Array (Int × Int)} {len : Nat} {x : Int32} {off : Int} (tgt : Nat) (hdg : decode M.2.1 pc = .ok (.lookupswitch dflt ps, len)) (hp : (ps.toList.zip (ps.toList.drop 1)).all (fun (a, next) => a.1 < next.1) = true) (ho : Op.lookupswitch.offset ps.toList dflt x.toInt = off) (ht : (pc : Int) + off = (tgt : Int)) (kk : Ev l G d mc ms M tgt ls st h Q) : Ev l G d mc ms M pc ls (.int x :: st) h Q := by
  intro p e R s m args below meth c H locs cells slots lv C a1 a2 a3 a4 hP hS hl
  exact lv_lookup C.1 C.2.1 hdg hp ho ht (kk p e R s m args below meth c H locs cells slots lv C a1 a2 a3 a4 hP hS hl)

theorem Ev_ldc {idx : Nat} {v : Int32} (hdg : decode M.2.1 pc = .ok (.ldc idx, 2)) (hw : Cond.constant M.1.cls idx v ∈ aTs) (kk : Ev l G d mc ms M (pc + 2) ls (.int v :: st) h Q) : Ev l G d mc ms M pc ls st h Q := by
  intro p e R s m args below meth c H locs cells slots lv C a1 a2 a3 a4 hP hS hl
  exact lv_ldc C.1 C.2.1 C.2.2.2.2.1 (C.2.2.2.2.2.1 _ hw) hdg (kk p e R s m args below meth c H locs cells slots lv C a1 a2 a3 a4 hP hS hl)
theorem Ev_ldcw {idx : Nat} {v : Int32} (hdg : decode M.2.1 pc = .ok (.ldc_w idx, 3)) (hw : Cond.constant M.1.cls idx v ∈ aTs) (kk : Ev l G d mc ms M (pc + 3) ls (.int v :: st) h Q) : Ev l G d mc ms M pc ls st h Q := by
  intro p e R s m args below meth c H locs cells slots lv C a1 a2 a3 a4 hP hS hl
  exact lv_ldcw C.1 C.2.1 C.2.2.2.2.1 (C.2.2.2.2.2.1 _ hw) hdg (kk p e R s m args below meth c H locs cells slots lv C a1 a2 a3 a4 hP hS hl)

theorem Ev_iret {x : Int32} (hdg : decode M.2.1 pc = .ok (.ireturn, 1)) (hr : M.2.2.2 = some .int) (hq : Q (some (.int x)) h) : Ev l G d mc ms M pc ls [.int x] h Q := by
  intro p e R s m args below meth c H locs cells slots lv C a1 a2 a3 a4 hP hS hl
  refine W.widen (k := R.cells) (n := R.slots) (by omega) (by omega) ?_
  exact W.iret (v := x) C.1 C.2.1 (C.2.2.2.1.trans hr) (fun t ht hW => ⟨some (.int x), h, rfl, hq, by rw [ht]; exact hP, fun q hq' => by rw [ht]; exact hS.2.1 q (Nat.lt_of_lt_of_le hq' C.2.2.2.2.2.2.2.2.2.2.2.2.2.2.2.1) (by omega), by rw [ht]; exact hS.1⟩) hS.2.2 hdg C.2.2.2.2.2.2.1

theorem Ev_zret {x : Int32} (hdg : decode M.2.1 pc = .ok (.ireturn, 1)) (hr : M.2.2.2 = some .boolean) (hx : x = 0 ∨ x = 1) (hq : Q (some (.int x)) h) : Ev l G d mc ms M pc ls [.int x] h Q := by
  intro p e R s m args below meth c H locs cells slots lv C a1 a2 a3 a4 hP hS hl
  refine W.widen (k := R.cells) (n := R.slots) (by omega) (by omega) ?_
  exact W.zret (v := x) (ty := .boolean) C.1 C.2.1 (C.2.2.2.1.trans hr) (by rcases hx with rfl | rfl <;> rfl) (fun t ht hW => ⟨some (.int x), h, rfl, hq, by rw [ht]; exact hP, fun q hq' => by rw [ht]; exact hS.2.1 q (Nat.lt_of_lt_of_le hq' C.2.2.2.2.2.2.2.2.2.2.2.2.2.2.2.1) (by omega), by rw [ht]; exact hS.1⟩) hS.2.2 hdg C.2.2.2.2.2.2.1

theorem Ev_vret (hdg : decode M.2.1 pc = .ok (.return_, 1)) (hr : M.2.2.2 = none) (hq : Q none h) : Ev l G d mc ms M pc ls [] h Q := by
  intro p e R s m args below meth c H locs cells slots lv C a1 a2 a3 a4 hP hS hl
  refine W.widen (k := R.cells) (n := R.slots) (by omega) (by omega) ?_
  exact W.vret C.1 C.2.1 (C.2.2.2.1.trans hr) (fun t ht hW => ⟨none, h, rfl, hq, by rw [ht]; exact hP, fun q hq' => by rw [ht]; exact hS.2.1 q (Nat.lt_of_lt_of_le hq' C.2.2.2.2.2.2.2.2.2.2.2.2.2.2.2.1) (by omega), by rw [ht]; exact hS.1⟩) hS.2.2 hdg C.2.2.2.2.2.2.1

theorem Ev_aret {rt : FieldType} {v : Value} (hdg : decode M.2.1 pc = .ok (.areturn, 1)) (hr : M.2.2.2 = some rt) (hrt : (∃ n, rt = .object n) ∨ ∃ t, rt = .array t) (hv : v = .null ∨ ∃ a, v = .ref a) (hq : Q (some v) h) : Ev l G d mc ms M pc ls [v] h Q := by
  intro p e R s m args below meth c H locs cells slots lv C a1 a2 a3 a4 hP hS hl
  refine W.widen (k := R.cells) (n := R.slots) (by omega) (by omega) ?_
  exact W.aret (v := tv G v) C.1 C.2.1 (C.2.2.2.1.trans hr) hrt (by rcases hv with rfl | ⟨a, rfl⟩ <;> first | exact Or.inl rfl | exact Or.inr ⟨_, rfl⟩) (fun t ht hW => ⟨some v, h, rfl, hq, by rw [ht]; exact hP, fun q hq' => by rw [ht]; exact hS.2.1 q (Nat.lt_of_lt_of_le hq' C.2.2.2.2.2.2.2.2.2.2.2.2.2.2.2.1) (by omega), by rw [ht]; exact hS.1⟩) hS.2.2 hdg C.2.2.2.2.2.2.1

end EV
end
section
theorem us_all : vwCl.all (fun r => (u_ws r.1 r.2.1 r.2.2).all (fun w => decide (w ∈ aTs))) = true := by decide +kernel
end
section
/-! fields and rows -/
theorem us_in {ci : Nat} {r : vw_C} (h : vwCl[ci]? = some r) : ∀ w ∈ u_ws r.1 r.2.1 r.2.2, w ∈ aTs := by
  have h1 := List.all_eq_true.mp us_all r (List.mem_of_getElem? h)
  intro w hw
  exact of_decide_eq_true (List.all_eq_true.mp h1 w hw)
theorem vw_lt {ci : Nat} {r : vw_C} (h : vwCl[ci]? = some r) : ci < 13 := (List.getElem?_eq_some_iff.mp h).1
theorem fn_eq {ci : Nat} {r : vw_C} (h : vwCl[ci]? = some r) : fn ci = r.2.2 := by unfold fn; rw [h]
theorem ty_all {ci : Nat} {r : vw_C} (h : vwCl[ci]? = some r) : (∀ k, k < r.2.2 → parseFieldDescriptor (r.2.1 k).2.2.1 = some (fT ci k)) ∧ (∀ a, a < r.2.2 → ∀ b, b < r.2.2 → a ≠ b → (r.2.1 a).2.1 ≠ (r.2.1 b).2.1) := by
  have hl := vw_lt h
  match ci, h with
  | 0, h => cases h; exact ⟨tyJx4a65c_ok, nmJx4a65c⟩
  | 1, h => cases h; exact ⟨tyX0_ok, nmX0⟩
  | 2, h => cases h; exact ⟨tyX1_ok, nmX1⟩
  | 3, h => cases h; exact ⟨tyX2_ok, nmX2⟩
  | 4, h => cases h; exact ⟨tyX3_ok, nmX3⟩
  | 5, h => cases h; exact ⟨tyX4_ok, nmX4⟩
  | 6, h => cases h; exact ⟨tyX5_ok, nmX5⟩
  | 7, h => cases h; exact ⟨tyX6_ok, nmX6⟩
  | 8, h => cases h; exact ⟨tyX7_ok, nmX7⟩
  | 9, h => cases h; exact ⟨tyX8_ok, nmX8⟩
  | 10, h => cases h; exact ⟨tyX9_ok, nmX9⟩
  | 11, h => cases h; exact ⟨tyX10_ok, nmX10⟩
  | 12, h => cases h; exact ⟨tyX11_ok, nmX11⟩
  | n + 13, h => exact absurd hl (by omega)
theorem fld_lt {ci : Nat} {r : vw_C} (h : vwCl[ci]? = some r) : r.2.2 < 64 := by
  have hl := vw_lt h
  match ci, h with
  | 0, h | 1, h | 2, h | 3, h | 4, h | 5, h | 6, h | 7, h | 8, h | 9, h | 10, h | 11, h | 12, h => cases h; decide
  | n + 13, h => exact absurd hl (by omega)
def fvs (G : aG) (h : aH) (ci a : Nat) : List Value := (List.range (fn ci)).map (fun j => fv G h ci j a)
theorem fvs_at {G : aG} {h : aH} {ci a j : Nat} (hj : j < fn ci) : (fvs G h ci a)[j]? = some (fv G h ci j a) := by
  unfold fvs
  rw [List.getElem?_map, List.getElem?_range hj]; rfl
theorem fvs_len {G : aG} {h : aH} {ci a : Nat} : (fvs G h ci a).length = fn ci := by simp [fvs]
theorem fvs_set {G : aG} {h h' : aH} {ci a j : Nat} {v : Value} (hj : j < fn ci) (e : fv G h' ci j a = v) (o : ∀ i, i < fn ci → i ≠ j → fv G h' ci i a = fv G h ci i a) : (fvs G h ci a).set j v = fvs G h' ci a := by
  apply List.ext_getElem?
  intro i
  rw [List.getElem?_set, fvs_len]
  by_cases hi : j = i
  · subst hi
    rw [if_pos rfl, if_pos hj, fvs_at hj, e]
  · rw [if_neg hi]
    by_cases hl : i < fn ci
    · rw [fvs_at hl, fvs_at hl, o i hl (Ne.symm hi)]
    · rw [List.getElem?_eq_none (by rw [fvs_len]; omega), List.getElem?_eq_none (by rw [fvs_len]; omega)]
theorem aCl_obj {G : aG} {h : aH} {ci a : Nat} (hk : hK h a = ci) (hc : ci < 13) : aCl G h a = .inr (ci, fvs G h ci a) := by
  unfold aCl
  rw [hk, if_pos hc]; rfl
theorem aCl_int {G : aG} {h : aH} {kd a : Nat} (hk : hK h a = kd) (hc : kd = 13 ∨ kd = 14) : aCl G h a = .inl (gC G kd, hL h a, .inl (hX h a)) := by
  unfold aCl
  rw [hk, if_neg (by omega), if_pos (by omega)]
theorem aCl_ref {G : aG} {h : aH} {kd a : Nat} (hk : hK h a = kd) (hc : 15 ≤ kd) : aCl G h a = .inl (gC G kd, hL h a, .inr (.inr (.inr (.inr (fun j => (hY h a j).map (ad G)))))) := by
  unfold aCl
  rw [hk, if_neg (by omega), if_neg (by omega)]
/-- a cell by its parts -/
theorem aCl_eq {G : aG} {h h' : aH} {b : Nat} (e1 : hK h' b = hK h b) (e2 : ∀ k, hI h' k b = hI h k b) (e3 : ∀ k, hR h' k b = hR h k b) (e4 : hL h' b = hL h b) (e5 : hX h' b = hX h b) (e6 : hY h' b = hY h b) : aCl G h' b = aCl G h b := by
  unfold aCl fv
  simp only [e1, e2, e3, e4, e5, e6]
theorem up1_s {α : Type} (f : Nat → α) (a : Nat) (v : α) : up1 f a v a = v := if_pos rfl
theorem up1_n {α : Type} (f : Nat → α) {a b : Nat} (v : α) (e : b ≠ a) : up1 f a v b = f b := if_neg e
theorem up2_s {α : Type} (f : Nat → Nat → α) (k a : Nat) (v : α) : up2 f k a v k a = v := by simp [up2]
theorem up2_n {α : Type} (f : Nat → Nat → α) {k a k' b : Nat} (v : α) (e : b ≠ a) : up2 f k a v k' b = f k' b := by simp [up2, e]
theorem up2_k {α : Type} (f : Nat → Nat → α) {k a k' b : Nat} (v : α) (e : k' ≠ k) : up2 f k a v k' b = f k' b := by simp [up2, e]
/-- a field's number among the heap's: by the place in the constant table of a class -/
def aFl (own : String) (idx ci j f : Nat) (rf : Bool) : Prop := ∃ (C : String) (T : u_T) (N : Nat) (ref : String), vwCl[ci]? = some (C, T, N) ∧ j < N ∧ f = 64 * ci + j ∧ rfT (fT ci j) = rf ∧ Cond.fieldLink own idx ref (T j).2.1 (T j).2.2.1 ∈ aTs ∧ (ref = (T j).1 ∨ Cond.sameField ref (T j).1 (T j).2.1 (T j).2.2.1 ∈ aTs)
section EV
variable {l : Launch} {G : aG} {d mc ms : Nat} {M : aM} {pc : Nat} {ls st : List Value} {h : aH} {Q : Option Value → aH → Prop}
theorem hsame_of {s : State} {args : Array Value} {ref C n dd : String} (hts : ∀ w ∈ aTs, w.before args s = true) (hr : ref = C ∨ Cond.sameField ref C n dd ∈ aTs) : ∀ x, s.fieldFound? C n dd = some x → s.fieldFound? ref n dd = some x := by
  rcases hr with rfl | hr
  · exact fun _ h => h
  · exact fun x hx => u_same (hts _ hr) x hx
theorem Ev_getI {idx ci j f a : Nat} (hdg : decode M.2.1 pc = .ok (.getfield idx, 3)) (hf : aFl M.1.cls idx ci j f false) (hk : hK h a = ci) (kk : Ev l G d mc ms M (pc + 3) ls (.int (hI h f a) :: st) h Q) : Ev l G d mc ms M pc ls (.ref a :: st) h Q := by
  intro p e R s m args below meth c H locs cells slots lv C a1 a2 a3 a4 hP hS hl
  obtain ⟨K, T, N, ref, q1, q2, q3, q4, q5, q6⟩ := hf
  have hc := vw_lt q1
  obtain ⟨h3, hn⟩ := hP.2.2 a (by rw [hk]; omega)
  refine va_get (D := gD G) (ci := ci) (v := .int (hI h f a)) (C := K) (T := T) (N := N) (fs := fvs G h ci a) C.1 C.2.1 C.2.2.2.2.2.1 (us_in q1) C.2.2.2.2.1 C.2.2.2.2.2.2.2.2.1 hP.2.1 (a - 3) (by rw [wl_get G h3 hn, aCl_obj hk hc]) q1 j q2 (C.2.2.2.2.2.1 _ q5) (hsame_of C.2.2.2.2.2.1 q6) ?_ hdg (kk p e R s m args below meth c H locs cells slots lv C a1 a2 a3 a4 hP hS hl)
  rw [fvs_at (by rw [fn_eq q1]; exact q2)]
  unfold fv
  rw [if_neg (by rw [q4]; decide), q3]
theorem Ev_getR {idx ci j f a : Nat} (hdg : decode M.2.1 pc = .ok (.getfield idx, 3)) (hf : aFl M.1.cls idx ci j f true) (hk : hK h a = ci) (kk : Ev l G d mc ms M (pc + 3) ls (rv (hR h f a) :: st) h Q) : Ev l G d mc ms M pc ls (.ref a :: st) h Q := by
  intro p e R s m args below meth c H locs cells slots lv C a1 a2 a3 a4 hP hS hl
  obtain ⟨K, T, N, ref, q1, q2, q3, q4, q5, q6⟩ := hf
  have hc := vw_lt q1
  obtain ⟨h3, hn⟩ := hP.2.2 a (by rw [hk]; omega)
  refine va_get (D := gD G) (ci := ci) (v := tv G (rv (hR h f a))) (C := K) (T := T) (N := N) (fs := fvs G h ci a) C.1 C.2.1 C.2.2.2.2.2.1 (us_in q1) C.2.2.2.2.1 C.2.2.2.2.2.2.2.2.1 hP.2.1 (a - 3) (by rw [wl_get G h3 hn, aCl_obj hk hc]) q1 j q2 (C.2.2.2.2.2.1 _ q5) (hsame_of C.2.2.2.2.2.1 q6) ?_ hdg (kk p e R s m args below meth c H locs cells slots lv C a1 a2 a3 a4 hP hS hl)
  rw [fvs_at (by rw [fn_eq q1]; exact q2)]
  unfold fv
  rw [if_pos q4, q3, tv_rv]
theorem wl_setI {h : aH} {ci j f a : Nat} {x : Int32} {r : vw_C} (q1 : vwCl[ci]? = some r) (q2 : j < r.2.2) (q3 : f = 64 * ci + j) (q4 : rfT (fT ci j) = false) (hk : hK h a = ci) (h3 : 3 ≤ a) (hn : a < hN h + 3) : (wl G h).set (a - 3) (ad G a, .inr (ci, (fvs G h ci a).set j (.int x))) = wl G (sI h f a x) := by
  have hc := vw_lt q1
  have hj : j < fn ci := by rw [fn_eq q1]; exact q2
  have e0 : fvs G (sI h f a x) ci a = (fvs G h ci a).set j (.int x) := by
    symm
    refine fvs_set hj ?_ (fun i hi hij => ?_)
    · unfold fv
      rw [if_neg (by rw [q4]; decide), ← q3]
      show Value.int (up2 (hI h) f a x f a) = _
      rw [up2_s]
    · unfold fv
      have : hI (sI h f a x) (64 * ci + i) a = hI h (64 * ci + i) a := by
        show up2 (hI h) f a x _ _ = _
        exact up2_k _ _ (by omega)
      rw [this]; rfl
  rw [← e0]
  have := wl_set G (h := h) (h' := sI h f a x) h3 hn rfl (fun b hb => aCl_eq rfl (fun k => up2_n _ _ hb) (fun _ => rfl) rfl rfl rfl)
  rw [← this, aCl_obj (h := sI h f a x) hk hc]
theorem wl_setR {h : aH} {ci j f a : Nat} {x : Option Nat} {r : vw_C} (q1 : vwCl[ci]? = some r) (q2 : j < r.2.2) (q3 : f = 64 * ci + j) (q4 : rfT (fT ci j) = true) (hk : hK h a = ci) (h3 : 3 ≤ a) (hn : a < hN h + 3) : (wl G h).set (a - 3) (ad G a, .inr (ci, (fvs G h ci a).set j (tv G (rv x)))) = wl G (sR h f a x) := by
  have hc := vw_lt q1
  have hj : j < fn ci := by rw [fn_eq q1]; exact q2
  have e0 : fvs G (sR h f a x) ci a = (fvs G h ci a).set j (tv G (rv x)) := by
    symm
    refine fvs_set hj ?_ (fun i hi hij => ?_)
    · unfold fv
      rw [if_pos q4, ← q3, tv_rv]
      show va_rf ((up2 (hR h) f a x f a).map (ad G)) = _
      rw [up2_s]
    · unfold fv
      have : hR (sR h f a x) (64 * ci + i) a = hR h (64 * ci + i) a := by
        show up2 (hR h) f a x _ _ = _
        exact up2_k _ _ (by omega)
      rw [this]; rfl
  rw [← e0]
  have := wl_set G (h := h) (h' := sR h f a x) h3 hn rfl (fun b hb => aCl_eq rfl (fun _ => rfl) (fun k => up2_n _ _ hb) rfl rfl rfl)
  rw [← this, aCl_obj (h := sR h f a x) hk hc]
theorem aRp.same {H H1 : Heap} {h h' : aH} (hP : aRp G h H) (e : hN h' = hN h) (ek : hK h' = hK h) (hz : H1.size = H.size) (hw : va_P (gD G) vwCl (wl G h') H1) : aRp G h' H1 := ⟨by rw [hz, e]; exact hP.1, hw, fun a ha => by rw [e]; exact hP.2.2 a (by rw [← ek]; exact ha)⟩
end EV
end
section
section EV
variable {l : Launch} {G : aG} {d mc ms : Nat} {M : aM} {pc : Nat} {ls st : List Value} {h : aH} {Q : Option Value → aH → Prop}
/-- a field is written: by the machine's row, with the sizes -/
theorem put_core {p : Program} {e : Env} {R : Room} {s : State} {m : MethodId} {args : Array Value} {below : List Frame} {meth : Method} {c : Code} {H : Heap} {locs : List Loc} {cells slots : Nat} {lv : Array Slot} {Z : State → Prop} {rest : List Value} {idx ci j a : Nat} {K : String} {T : u_T} {N : Nat} {ref : String} {v : Value} (C : aCx G M p s m args meth c) (q1 : vwCl[ci]? = some (K, T, N)) (q2 : j < N) (q5 : Cond.fieldLink M.1.cls idx ref (T j).2.1 (T j).2.2.1 ∈ aTs) (q6 : ref = (T j).1 ∨ Cond.sameField ref (T j).1 (T j).2.1 (T j).2.2.1 ∈ aTs) (hfin : (T j).2.2.2 = false ∨ (M.1.name = "<init>" ∧ (T j).1 = M.1.cls)) (hk : hK h a = ci) (hn1 : narrow (fT ci j) v = v) (hfit : fits (fT ci j) v = true) (hP : aRp G h H) (hS : va_S (fun q => gB G ≤ q) s.heap H locs) (hdg : decode M.2.1 pc = .ok (.putfield idx, 3))
    (kk : ∀ (H1 : Heap) (locs1 : List Loc), H1.size = H.size → va_P (gD G) vwCl ((wl G h).set (a - 3) (ad G a, .inr (ci, (fvs G h ci a).set j v))) H1 → va_S (fun q => gB G ≤ q) s.heap H1 locs1 → W p l e R s m args below meth c H1 locs1 cells slots Z (F0 m (pc + 3) lv rest)) : W p l e R s m args below meth c H locs cells slots Z (F0 m pc lv (v :: .ref (ad G a) :: rest)) := by
  have hc := vw_lt q1
  obtain ⟨h3, hn⟩ := hP.2.2 a (by rw [hk]; omega)
  have hts := C.2.2.2.2.2.1
  have hin := us_in q1
  obtain ⟨hty, hnm⟩ := ty_all q1
  have hKK := C.2.2.2.2.2.2.2.2.1
  have he : (wl G h)[a - 3]? = some (ad G a, .inr (ci, fvs G h ci a)) := by rw [wl_get G h3 hn, aCl_obj hk hc]
  have hap := va_apart (own := M.1.cls) hts hin (fT ci) hty hnm hKK q1
  obtain ⟨r, h1, cell, w1, w2, w3, w4⟩ := hP.2.1 (a - 3) _ he
  have hr : r = (K, T, N) := Option.some.inj (h1.symm.trans q1)
  subst hr
  obtain ⟨hSl, hfc, kC, hkC, hkind⟩ := hKK.1 ci _ q1
  obtain ⟨cf, kf, fi, f, hi, hsl⟩ := hSl j q2
  have hst := (u_facts hfc hkC (u_lays hts hin q2) hi).1
  have hd := hty j q2
  have hD := wl_D G h
  have hsm := hsame_of (n := (T j).2.1) (dd := (T j).2.2.1) hts q6
  have hlj : j < (fvs G h ci a).length := by rw [fvs_len, fn_eq q1]; exact q2
  have done : ∀ H' : Heap, H'[ad G a]? = some (cell.setSlot f.slot v) → H'.size = H.size → (∀ q, q ≠ ad G a → H'[q]? = H[q]?) → W p l e R s m args below meth c H' (locs ++ [⟨ad G a, f.slot⟩]) cells slots Z (F0 m (pc + 3) lv rest) := by
    intro H' e1 e2 e3
    rw [hsl] at e1 ⊢
    exact kk H' _ e2 (hP.2.1.set hD he ⟨_, q1, t_OB.to (V := updV (vp_V (fvs G h ci a)) j v) ⟨_, e1, w2, w3, t_set w4 hap q2 v⟩ (fun i _ => vp_updV_set hlj v i)⟩ e3) (hS.put e2 e3 (hD.2 (a - 3) _ he))
  by_cases hf : (T j).2.2.2 = true
  · rcases hfin with hz | ⟨hz1, hz2⟩
    · rw [hz] at hf; cases hf
    have hlay := hts _ (hin _ (u_in_lay q2))
    unfold u_lay at hlay
    rw [if_pos hf] at hlay
    have hcf : m.cls = cf := by
      obtain ⟨_, _, c', _, _, _, -, -, hf', -, -, -, hown2, -⟩ := Cond.laysFinal_spec hlay
      have e1 : c' = cf := by have := hi.symm.trans hf'; simp at this; exact this.1.symm
      rw [hz2] at hown2
      rw [← e1]; exact Option.some.inj (C.2.2.2.2.1.symm.trans hown2)
    have h6 := u_fits hfc hkC hkind (Or.inr hlay) hi hd hn1 hfit
    exact W.putFinK C.1 C.2.1 C.2.2.2.2.1 (hts _ q5) (hsm _ hi) hst hcf (C.2.2.2.2.2.2.2.1 hz1) (by rw [w2]; exact h6) w1 w3 (by rw [hsl]; exact k2_hasslot (w4 j q2)) rfl rfl hdg done
  · have hlay := hts _ (hin _ (u_in_lay q2))
    unfold u_lay at hlay
    rw [if_neg hf] at hlay
    have h6 := u_store hfc hkC hkind hlay hi hd hn1 hfit
    exact W.putK C.1 C.2.1 (f := f) ⟨C.2.2.2.2.1, hts _ q5, ⟨_, _, _, hsm _ hi⟩, hst⟩ (by rw [w2]; exact h6) w1 w3 (by rw [hsl]; exact k2_hasslot (w4 j q2)) rfl rfl hdg done
/-- may this field be written here? -/
def aFw (M : aM) (ci j : Nat) : Prop := ∃ r : vw_C, vwCl[ci]? = some r ∧ ((r.2.1 j).2.2.2 = false ∨ (M.1.name = "<init>" ∧ (r.2.1 j).1 = M.1.cls))
theorem Ev_putI {idx ci j f a : Nat} {x : Int32} (hdg : decode M.2.1 pc = .ok (.putfield idx, 3)) (hf : aFl M.1.cls idx ci j f false) (hw : aFw M ci j) (hx : fT ci j = .int ∨ (fT ci j = .boolean ∧ (x = 0 ∨ x = 1))) (hk : hK h a = ci) (kk : Ev l G d mc ms M (pc + 3) ls st (sI h f a x) Q) : Ev l G d mc ms M pc ls (.int x :: .ref a :: st) h Q := by
  intro p e R s m args below meth c H locs cells slots lv C a1 a2 a3 a4 hP hS hl
  obtain ⟨K, T, N, ref, q1, q2, q3, q4, q5, q6⟩ := hf
  obtain ⟨r, r1, r2⟩ := hw
  have hr : r = (K, T, N) := Option.some.inj (r1.symm.trans q1)
  subst hr
  obtain ⟨h3, hn⟩ := hP.2.2 a (by rw [hk]; have := vw_lt q1; omega)
  refine put_core (v := .int x) C q1 q2 q5 q6 r2 hk ?_ ?_ hP hS hdg (fun H1 locs1 hz hw1 hS1 => kk p e R s m args below meth c H1 locs1 cells slots lv C a1 a2 a3 a4 (hP.same rfl rfl hz ?_) hS1 hl)
  · rcases hx with hx | ⟨hx, rfl | rfl⟩ <;> rw [hx] <;> rfl
  · rcases hx with hx | ⟨hx, rfl | rfl⟩ <;> rw [hx] <;> rfl
  · rw [← wl_setI q1 q2 q3 q4 hk h3 hn]; exact hw1
theorem rf_fit {ty : FieldType} (h : rfT ty = true) (G : aG) (x : Option Nat) : narrow ty (tv G (rv x)) = tv G (rv x) ∧ fits ty (tv G (rv x)) = true := by
  cases ty <;> first | (cases x <;> exact ⟨rfl, rfl⟩) | (simp [rfT] at h)
theorem Ev_putR {idx ci j f a : Nat} {x : Option Nat} {v : Value} (hdg : decode M.2.1 pc = .ok (.putfield idx, 3)) (hf : aFl M.1.cls idx ci j f true) (hw : aFw M ci j) (hk : hK h a = ci) (hv : v = rv x) (kk : Ev l G d mc ms M (pc + 3) ls st (sR h f a x) Q) : Ev l G d mc ms M pc ls (v :: .ref a :: st) h Q := by
  subst hv
  intro p e R s m args below meth c H locs cells slots lv C a1 a2 a3 a4 hP hS hl
  obtain ⟨K, T, N, ref, q1, q2, q3, q4, q5, q6⟩ := hf
  obtain ⟨r, r1, r2⟩ := hw
  have hr : r = (K, T, N) := Option.some.inj (r1.symm.trans q1)
  subst hr
  obtain ⟨h3, hn⟩ := hP.2.2 a (by rw [hk]; have := vw_lt q1; omega)
  refine put_core (v := tv G (rv x)) C q1 q2 q5 q6 r2 hk (rf_fit q4 G x).1 (rf_fit q4 G x).2 hP hS hdg (fun H1 locs1 hz hw1 hS1 => kk p e R s m args below meth c H1 locs1 cells slots lv C a1 a2 a3 a4 (hP.same rfl rfl hz ?_) hS1 hl)
  rw [← wl_setR q1 q2 q3 q4 hk h3 hn]; exact hw1
end EV
end
section
theorem ix_nat {i : Int32} {j : Nat} (h : i.toInt = (j : Int)) : i.toNatClampNeg = j := by
  show i.toInt.toNat = j
  rw [h]; rfl
theorem ix_in {i : Int32} {j n : Nat} (h : i.toInt = (j : Int)) (hj : j < n) : vp_in i n := vp_in_iff.mpr ⟨by rw [h]; omega, by rw [h]; omega⟩
theorem ix_nn {i : Int32} {j : Nat} (h : i.toInt = (j : Int)) : ¬ i < 0 := by
  intro hc
  have := Int32.lt_iff_toInt_lt.mp hc
  simp at this
  omega
def kdT : Nat → FieldType := fun kd => match kd with
  | 13 => .int
  | 14 => .boolean
  | 15 => .object "java/lang/Object"
  | 16 => .object "MadeMended$Piece"
  | 17 => .object "MadeMended$Rule"
  | _ => .object "MadeMended$Thing"
theorem aTy_at (G : aG) {kd : Nat} (h1 : 13 ≤ kd) (h2 : kd ≤ 18) : (aTy G)[kd - 13]? = some (gC G kd, kdT kd) := by
  rcases (show kd = 13 ∨ kd = 14 ∨ kd = 15 ∨ kd = 16 ∨ kd = 17 ∨ kd = 18 by omega) with rfl | rfl | rfl | rfl | rfl | rfl <;> rfl
section EV
variable {l : Launch} {G : aG} {d mc ms : Nat} {M : aM} {pc : Nat} {ls st : List Value} {h : aH} {Q : Option Value → aH → Prop}
theorem wl_rowI {H : Heap} {a kd : Nat} (hP : aRp G h H) (hk : hK h a = kd) (hc : kd = 13 ∨ kd = 14) : (wl G h)[a - 3]? = some (ad G a, .inl (gC G kd, hL h a, .inl (hX h a))) := by
  obtain ⟨h3, hn⟩ := hP.2.2 a (by rw [hk]; omega)
  rw [wl_get G h3 hn, aCl_int hk hc]
theorem wl_rowQ {H : Heap} {a kd : Nat} (hP : aRp G h H) (hk : hK h a = kd) (h1 : 15 ≤ kd) (h2 : kd ≤ 18) : (wl G h)[a - 3]? = some (ad G a, .inl (gC G kd, hL h a, .inr (.inr (.inr (.inr (fun j => (hY h a j).map (ad G))))))) := by
  obtain ⟨h3, hn⟩ := hP.2.2 a (by rw [hk]; omega)
  rw [wl_get G h3 hn, aCl_ref hk h1]
theorem wl_obj {H : Heap} {a ci : Nat} (hP : aRp G h H) (hk : hK h a = ci) (hc : ci < 13) : (wl G h)[a - 3]? = some (ad G a, .inr (ci, fvs G h ci a)) := by
  obtain ⟨h3, hn⟩ := hP.2.2 a (by rw [hk]; omega)
  rw [wl_get G h3 hn, aCl_obj hk hc]
theorem Ev_iald {i : Int32} {a : Nat} (j : Nat) (hdg : decode M.2.1 pc = .ok (.iaload, 1)) (hk : hK h a = 13) (hi : i.toInt = (j : Int)) (hj : j < hL h a) (kk : Ev l G d mc ms M (pc + 1) ls (.int (hX h a j) :: st) h Q) : Ev l G d mc ms M pc ls (.int i :: .ref a :: st) h Q := by
  intro p e R s m args below meth c H locs cells slots lv C a1 a2 a3 a4 hP hS hl
  refine va_iald C.1 C.2.1 C.2.2.2.2.2.2.2.2.1 hP.2.1 (a - 3) 0 (wl_rowI hP hk (Or.inl rfl)) rfl (ix_in hi hj) hdg ?_
  rw [ix_nat hi]
  exact kk p e R s m args below meth c H locs cells slots lv C a1 a2 a3 a4 hP hS hl
theorem Ev_zald {i : Int32} {a : Nat} (j : Nat) (hdg : decode M.2.1 pc = .ok (.baload, 1)) (hk : hK h a = 14) (hi : i.toInt = (j : Int)) (hj : j < hL h a) (kk : Ev l G d mc ms M (pc + 1) ls (.int (hX h a j) :: st) h Q) : Ev l G d mc ms M pc ls (.int i :: .ref a :: st) h Q := by
  intro p e R s m args below meth c H locs cells slots lv C a1 a2 a3 a4 hP hS hl
  refine va_zald C.1 C.2.1 C.2.2.2.2.2.2.2.2.1 hP.2.1 (a - 3) 1 (wl_rowI hP hk (Or.inr rfl)) rfl (ix_in hi hj) hdg ?_
  rw [ix_nat hi]
  exact kk p e R s m args below meth c H locs cells slots lv C a1 a2 a3 a4 hP hS hl
theorem Ev_aald {i : Int32} {a kd : Nat} (j : Nat) (hdg : decode M.2.1 pc = .ok (.aaload, 1)) (hk : hK h a = kd) (h1 : 15 ≤ kd) (h2 : kd ≤ 18) (hi : i.toInt = (j : Int)) (hj : j < hL h a) (kk : Ev l G d mc ms M (pc + 1) ls (rv (hY h a j) :: st) h Q) : Ev l G d mc ms M pc ls (.int i :: .ref a :: st) h Q := by
  intro p e R s m args below meth c H locs cells slots lv C a1 a2 a3 a4 hP hS hl
  have hT : ∃ E, kdT kd = .object E := by rcases (show kd = 15 ∨ kd = 16 ∨ kd = 17 ∨ kd = 18 by omega) with rfl | rfl | rfl | rfl <;> exact ⟨_, rfl⟩
  obtain ⟨E, hE⟩ := hT
  refine va_aldq (C := E) C.1 C.2.1 C.2.2.2.2.2.2.2.2.1 hP.2.1 (a - 3) (kd - 13) (wl_rowQ hP hk h1 h2) (by rw [aTy_at G (by omega) h2, hE]) (ix_in hi hj) hdg ?_
  rw [ix_nat hi, ← tv_rv]
  exact kk p e R s m args below meth c H locs cells slots lv C a1 a2 a3 a4 hP hS hl
theorem Ev_alen {a kd : Nat} (hdg : decode M.2.1 pc = .ok (.arraylength, 1)) (hk : hK h a = kd) (h1 : 13 ≤ kd) (h2 : kd ≤ 18) (kk : Ev l G d mc ms M (pc + 1) ls (.int (nI (hL h a)) :: st) h Q) : Ev l G d mc ms M pc ls (.ref a :: st) h Q := by
  intro p e R s m args below meth c H locs cells slots lv C a1 a2 a3 a4 hP hS hl
  by_cases hc : kd = 13 ∨ kd = 14
  · exact va_alen C.1 C.2.1 C.2.2.2.2.2.2.2.2.1 hP.2.1 (a - 3) (kd - 13) (wl_rowI hP hk hc) (aTy_at G h1 h2) rfl hdg (kk p e R s m args below meth c H locs cells slots lv C a1 a2 a3 a4 hP hS hl)
  · exact va_alen C.1 C.2.1 C.2.2.2.2.2.2.2.2.1 hP.2.1 (a - 3) (kd - 13) (wl_rowQ hP hk (by omega) h2) (aTy_at G h1 h2) rfl hdg (kk p e R s m args below meth c H locs cells slots lv C a1 a2 a3 a4 hP hS hl)
theorem Ev_sld {i : Int32} (j : Nat) (hdg : decode M.2.1 pc = .ok (.iaload, 1)) (hi : i.toInt = (j : Int)) (hj : j < gL G) (kk : Ev l G d mc ms M (pc + 1) ls (.int (gX G j) :: st) h Q) : Ev l G d mc ms M pc ls (.int i :: .ref 0 :: st) h Q := by
  intro p e R s m args below meth c H locs cells slots lv C a1 a2 a3 a4 hP hS hl
  have hw := C.2.2.2.2.2.2.2.2
  refine va_sld (A := fun q => gB G ≤ q) (H0 := s.heap) C.1 C.2.1 hw.2.1 (Nat.lt_of_lt_of_le hw.2.2.1 hw.2.2.2.2.2.2.2.1) (by have := hw.2.2.1; omega) hS (ix_in hi hj) hdg ?_
  rw [ix_nat hi]
  exact kk p e R s m args below meth c H locs cells slots lv C a1 a2 a3 a4 hP hS hl
theorem Ev_slen (hdg : decode M.2.1 pc = .ok (.arraylength, 1)) (kk : Ev l G d mc ms M (pc + 1) ls (.int (nI (gL G)) :: st) h Q) : Ev l G d mc ms M pc ls (.ref 0 :: st) h Q := by
  intro p e R s m args below meth c H locs cells slots lv C a1 a2 a3 a4 hP hS hl
  have hw := C.2.2.2.2.2.2.2.2
  exact va_slen (b := gb G) (A := fun q => gB G ≤ q) (H0 := s.heap) C.1 C.2.1 hw.2.1 (Nat.lt_of_lt_of_le hw.2.2.1 hw.2.2.2.2.2.2.2.1) (by have := hw.2.2.1; omega) hS hdg (kk p e R s m args below meth c H locs cells slots lv C a1 a2 a3 a4 hP hS hl)
theorem Ev_elen (hdg : decode M.2.1 pc = .ok (.arraylength, 1)) (kk : Ev l G d mc ms M (pc + 1) ls (.int (nI 0) :: st) h Q) : Ev l G d mc ms M pc ls (.ref 1 :: st) h Q := by
  intro p e R s m args below meth c H locs cells slots lv C a1 a2 a3 a4 hP hS hl
  have hw := C.2.2.2.2.2.2.2.2
  exact va_tlen (A := fun q => gB G ≤ q) C.1 C.2.1 hw.2.2.2.2.1 hS rfl hdg (kk p e R s m args below meth c H locs cells slots lv C a1 a2 a3 a4 hP hS hl)
theorem Ev_gets {idx : Nat} (hdg : decode M.2.1 pc = .ok (.getstatic idx, 3)) (hl0 : Cond.fieldLink M.1.cls idx "java/util/ArrayList" "DEFAULTCAPACITY_EMPTY_ELEMENTDATA" "[Ljava/lang/Object;" ∈ aTs) (kk : Ev l G d mc ms M (pc + 3) ls (.ref 1 :: st) h Q) : Ev l G d mc ms M pc ls st h Q := by
  intro p e R s m args below meth c H locs cells slots lv C a1 a2 a3 a4 hP hS hl
  have hw := C.2.2.2.2.2.2.2.2
  exact va_gets (A := fun q => gB G ≤ q) C.1 C.2.1 hw.2.2.2.1 hS C.2.2.2.2.1 (C.2.2.2.2.2.1 _ hl0) (fun _ h9 => h9) hdg (kk p e R s m args below meth c H locs cells slots lv C a1 a2 a3 a4 hP hS hl)
theorem wl_setX {H : Heap} {a kd : Nat} {f : Nat → Int32} {h' : aH} (hP : aRp G h H) (hk : hK h a = kd) (hc : kd = 13 ∨ kd = 14) (e1 : hN h' = hN h) (e2 : hK h' = hK h) (e3 : hI h' = hI h) (e4 : hR h' = hR h) (e5 : hL h' = hL h) (e6 : hY h' = hY h) (e7 : hX h' a = f) (e8 : ∀ b, b ≠ a → hX h' b = hX h b) : (wl G h).set (a - 3) (ad G a, .inl (gC G kd, hL h a, .inl f)) = wl G h' := by
  obtain ⟨h3, hn⟩ := hP.2.2 a (by rw [hk]; omega)
  rw [← wl_set G (h := h) (h' := h') h3 hn e1 (fun b hb => aCl_eq (by rw [e2]) (fun k => by rw [e3]) (fun k => by rw [e4]) (by rw [e5]) (e8 b hb) (by rw [e6])), aCl_int (h := h') (kd := kd) (by rw [e2]; exact hk) hc, e5, e7]
theorem wl_setY {H : Heap} {a kd : Nat} {f : Nat → Option Nat} {h' : aH} (hP : aRp G h H) (hk : hK h a = kd) (h1 : 15 ≤ kd) (h2 : kd ≤ 18) (e1 : hN h' = hN h) (e2 : hK h' = hK h) (e3 : hI h' = hI h) (e4 : hR h' = hR h) (e5 : hL h' = hL h) (e6 : hX h' = hX h) (e7 : (fun j => (hY h' a j).map (ad G)) = f) (e8 : ∀ b, b ≠ a → hY h' b = hY h b) : (wl G h).set (a - 3) (ad G a, .inl (gC G kd, hL h a, .inr (.inr (.inr (.inr f))))) = wl G h' := by
  obtain ⟨h3, hn⟩ := hP.2.2 a (by rw [hk]; omega)
  rw [← wl_set G (h := h) (h' := h') h3 hn e1 (fun b hb => aCl_eq (by rw [e2]) (fun k => by rw [e3]) (fun k => by rw [e4]) (by rw [e5]) (by rw [e6]) (e8 b hb)), aCl_ref (h := h') (kd := kd) (by rw [e2]; exact hk) h1, e5, e7]
theorem Ev_iast {i x : Int32} {a : Nat} (j : Nat) (hdg : decode M.2.1 pc = .ok (.iastore, 1)) (hk : hK h a = 13) (hi : i.toInt = (j : Int)) (hj : j < hL h a) (kk : Ev l G d mc ms M (pc + 1) ls st (sX h a j x) Q) : Ev l G d mc ms M pc ls (.int x :: .int i :: .ref a :: st) h Q := by
  intro p e R s m args below meth c H locs cells slots lv C a1 a2 a3 a4 hP hS hl
  have ha := wl_rowI hP hk (Or.inl rfl)
  have hD := wl_D G h
  refine W.iast C.1 C.2.1 (hP.2.1 _ _ ha) ((C.2.2.2.2.2.2.2.2.1.2 0 _ rfl).1 (hL h a) (fun j => .int (hX h a j))) (fun q => by cases q) (by show ¬ (i < 0 ∨ (arrV _ _ _).slots.size ≤ _); rw [arrV_size]; exact ix_in hi hj) rfl rfl hdg fun H1 e0 z oq => ?_
  refine kk p e R s m args below meth c H1 _ cells slots lv C a1 a2 a3 a4 (hP.same rfl rfl z ?_) (hS.put z oq (hD.2 _ _ ha)) hl
  rw [← wl_setX (h' := sX h a j x) hP hk (Or.inl rfl) rfl rfl rfl rfl rfl rfl rfl (fun b hb => by
    funext q; exact if_neg hb)]
  refine hP.2.1.set hD ha ?_ oq
  show H1[ad G a]? = some (vp_cell _ _)
  rw [e0, ix_nat hi, vp_cell_i, vp_cell_i, arrV_store]
  congr 2
  funext q
  show updV _ _ _ _ = Value.int (up2 (hX h) a j x a q)
  by_cases hq : q = j
  · subst hq
    simp [updV, up2]
  · simp [updV, up2, hq]
theorem Ev_zast {i x : Int32} {a : Nat} (j : Nat) (hdg : decode M.2.1 pc = .ok (.bastore, 1)) (hk : hK h a = 14) (hx : x = 0 ∨ x = 1) (hi : i.toInt = (j : Int)) (hj : j < hL h a) (kk : Ev l G d mc ms M (pc + 1) ls st (sX h a j x) Q) : Ev l G d mc ms M pc ls (.int x :: .int i :: .ref a :: st) h Q := by
  intro p e R s m args below meth c H locs cells slots lv C a1 a2 a3 a4 hP hS hl
  have ha := wl_rowI hP hk (Or.inr rfl)
  have hD := wl_D G h
  refine W.zast C.1 C.2.1 (hP.2.1 _ _ ha) ((C.2.2.2.2.2.2.2.2.1.2 1 _ rfl).1 (hL h a) (fun j => .int (hX h a j))) (fun q => by cases q) (by show ¬ (i < 0 ∨ (arrV _ _ _).slots.size ≤ _); rw [arrV_size]; exact ix_in hi hj) rfl rfl hdg fun H1 e0 z oq => ?_
  refine kk p e R s m args below meth c H1 _ cells slots lv C a1 a2 a3 a4 (hP.same rfl rfl z ?_) (hS.put z oq (hD.2 _ _ ha)) hl
  rw [← wl_setX (h' := sX h a j x) hP hk (Or.inr rfl) rfl rfl rfl rfl rfl rfl rfl (fun b hb => by
    funext q; exact if_neg hb)]
  refine hP.2.1.set hD ha ?_ oq
  show H1[ad G a]? = some (vp_cell _ _)
  have hnx : narrow .boolean (.int x) = .int x := by rcases hx with rfl | rfl <;> rfl
  rw [e0, hnx, ix_nat hi, vp_cell_i, vp_cell_i, arrV_store]
  congr 2
  funext q
  show updV _ _ _ _ = Value.int (up2 (hX h) a j x a q)
  by_cases hq : q = j
  · subst hq
    simp [updV, up2]
  · simp [updV, up2, hq]
end EV
end
section
section EV
variable {l : Launch} {G : aG} {d mc ms : Nat} {M : aM} {pc : Nat} {ls st : List Value} {h : aH} {Q : Option Value → aH → Prop}
theorem aRp.grow {H H1 : Heap} {h' : aH} (hP : aRp G h H) (hz : H1.size = H.size + 1) (ho : ∀ q, q < H.size → H1[q]? = H[q]?) (en : hN h' = hN h + 1) (ek : ∀ a, a ≠ hN h + 3 → hK h' a = hK h a) (ec : ∀ b, b < hN h + 3 → aCl G h' b = aCl G h b) (hat : va_at (gD G) vwCl (gB G + hN h, aCl G h' (hN h + 3)) H1) : aRp G h' H1 := by
  refine ⟨by rw [hz, hP.1, en]; omega, ?_, fun a ha => ?_⟩
  · rw [← wl_push G en ec]
    refine (hP.2.1.kept (fun k q hk => ho q.1 (hP.2.1 k q hk).lt)).app (fun k x hx => ?_)
    have hz : k < 1 := (List.getElem?_eq_some_iff.mp hx).1
    rw [show k = 0 by omega] at hx
    cases hx
    exact hat
  · by_cases hb : a = hN h + 3
    · rw [hb, en]; omega
    · have := hP.2.2 a (by rw [← ek a hb]; exact ha)
      rw [en]; omega
theorem S_grow {s : State} {H H1 : Heap} {locs : List Loc} (hS : va_S (fun q => gB G ≤ q) s.heap H locs) (hz : H1.size = H.size + 1) (ho : ∀ q, q < H.size → H1[q]? = H[q]?) : va_S (fun q => gB G ≤ q) s.heap H1 locs := ⟨Nat.le_trans hS.1 (by omega), fun x h1 h2 => (ho x (Nat.lt_of_lt_of_le h1 hS.1)).trans (hS.2.1 x h1 h2), hS.2.2⟩
theorem aCl_nO {ci b : Nat} (hb : b < hN h + 3) : aCl G (nO h ci) b = aCl G h b :=
  aCl_eq (up1_n _ _ (by omega)) (fun _ => if_neg (by omega)) (fun _ => if_neg (by omega)) rfl rfl rfl
theorem aCl_nA {kd n b : Nat} (hb : b < hN h + 3) : aCl G (nA h kd n) b = aCl G h b :=
  aCl_eq (up1_n _ _ (by omega)) (fun _ => rfl) (fun _ => rfl) (up1_n _ _ (by omega)) (up1_n _ _ (by omega)) (up1_n _ _ (by omega))
theorem fv_dflt {ci j : Nat} (hj : j < fn ci) (hty : fT ci j = .int ∨ fT ci j = .boolean ∨ rfT (fT ci j) = true) : defaultValue (fT ci j) = fv G (nO h ci) ci j (hN h + 3) := by
  have e1 : hI (nO h ci) (64 * ci + j) (hN h + 3) = 0 := if_pos rfl
  have e2 : hR (nO h ci) (64 * ci + j) (hN h + 3) = none := if_pos rfl
  unfold fv
  rw [e1, e2]
  rcases hty with hy | hy | hy
  · rw [hy]; rfl
  · rw [hy]; rfl
  · rw [if_pos hy]
    cases hf : fT ci j <;> rw [hf] at hy <;> first | rfl | (simp [rfT] at hy)
theorem ty_ok {ci : Nat} {r : vw_C} (h : vwCl[ci]? = some r) : ∀ j, j < r.2.2 → fT ci j = .int ∨ fT ci j = .boolean ∨ rfT (fT ci j) = true := by
  have hl := vw_lt h
  match ci, h with
  | 0, h | 1, h | 2, h | 3, h | 4, h | 5, h | 6, h | 7, h | 8, h | 9, h | 10, h | 11, h | 12, h => cases h; decide +kernel
  | n + 13, h => exact absurd hl (by omega)
/-- a class's place in a constant table, and that it can be made -/
def aNl (own : String) (idx ci : Nat) : Prop := ∃ (C : String) (T : u_T) (N : Nat), vwCl[ci]? = some (C, T, N) ∧ Cond.classLink own idx C ∈ aTs ∧ Cond.instantiable C N ∈ aTs ∧ Cond.initialized C ∈ aTs
theorem Ev_new {idx ci : Nat} (hdg : decode M.2.1 pc = .ok (.new idx, 3)) (hn : aNl M.1.cls idx ci) (kk : Ev l G d mc ms M (pc + 3) ls (.ref (hN h + 3) :: st) (nO h ci) Q) : Ev l G d (mc + 1) (ms + fn ci) M pc ls st h Q := by
  intro p e R s m args below meth c H locs cells slots lv C a1 a2 a3 a4 hP hS hl
  obtain ⟨K, T, N, q1, q2, q3, q4⟩ := hn
  have hts := C.2.2.2.2.2.1
  have hKn := C.2.2.2.2.2.2.2.2.1.1 ci _ q1
  have hfn : fn ci = N := fn_eq q1
  rw [hfn] at a4
  refine W.newcK C.1 C.2.1 C.2.2.2.2.1 (hts _ q2) (hts _ q3) (hts _ q4) rfl hdg (by omega) (by omega) hKn.2.1 rfl fun H1 kC hkC e1 z1 o1 => ?_
  have ha : ad G (hN h + 3) = H.size := by rw [ad_3 G (by omega), hP.1]; omega
  have hr : aRp G (nO h ci) H1 := by
    refine hP.grow z1 o1 rfl (fun a ha => up1_n _ _ ha) (fun b hb => aCl_nO hb) ?_
    rw [aCl_obj (h := nO h ci) (up1_s _ _ _) (vw_lt q1)]
    refine ⟨_, q1, (u_born (fT ci) hts (us_in q1) hKn hkC ?_ (ty_all q1).1).to (fun j hj => ?_)⟩
    · rw [← hP.1]; exact e1
    · rw [vp_V, List.getD_eq_getElem?_getD, fvs_at (by rw [hfn]; exact hj)]
      exact fv_dflt (by rw [hfn]; exact hj) (ty_ok q1 j hj)
  have hz : List.map (tv G) (Value.ref (hN h + 3) :: st) = Value.ref H.size :: st.map (tv G) := by
    rw [← ha]; rfl
  have K1 := kk p e R s m args below meth c H1 locs (cells + 1) (slots + N) lv C a1 a2 (by omega) (by omega) hr (S_grow hS z1 o1) hl
  rw [hz] at K1
  exact K1
theorem Ev_newa {kd : Nat} {n : Int32} {aty : ArrayType} (N : Nat) (hdg : decode M.2.1 pc = .ok (.newarray aty, 2)) (hty : newarray.typeOf aty = kdT kd) (hkd : kd = 13 ∨ kd = 14) (hw : Cond.arrayClass (kdT kd) ∈ aTs) (hn : n.toInt = (N : Int)) (hbig : N ≤ 100000) (kk : Ev l G d mc ms M (pc + 2) ls (.ref (hN h + 3) :: st) (nA h kd N) Q) : Ev l G d (mc + 1) (ms + N) M pc ls (.int n :: st) h Q := by
  intro p e R s m args below meth c H locs cells slots lv C a1 a2 a3 a4 hP hS hl
  have hts := C.2.2.2.2.2.1
  have hb4 : componentBytes (kdT kd) ≤ 8 := by rcases hkd with rfl | rfl <;> decide
  refine va_newaK (N := N) C.1 C.2.1 (by rw [hty]; exact hts _ hw) rfl hdg rfl (ix_nn hn) (ix_nat hn) (by rw [hty]; exact Nat.le_trans (Nat.mul_le_mul hbig hb4) (by decide)) (by omega) (by omega) rfl fun H1 cA e1 z1 o1 hAr hNm => ?_
  rw [hty] at hAr hNm e1
  have ha : ad G (hN h + 3) = H.size := by rw [ad_3 G (by omega), hP.1]; omega
  have hcA : cA = gC G kd := by
    have h2 := (C.2.2.2.2.2.2.2.2.1.2 (kd - 13) _ (aTy_at G (by omega) (by omega))).2
    rcases hkd with rfl | rfl <;> exact Option.some.inj (hNm.symm.trans h2)
  subst hcA
  have hr : aRp G (nA h kd N) H1 := by
    refine hP.grow z1 o1 rfl (fun a ha => up1_n _ _ ha) (fun b hb => aCl_nA hb) ?_
    rw [aCl_int (h := nA h kd N) (kd := kd) (up1_s _ _ _) hkd]
    show H1[gB G + hN h]? = some (vp_cell _ _)
    rw [← hP.1, e1, show hL (nA h kd N) (hN h + 3) = N from up1_s _ _ _, show hX (nA h kd N) (hN h + 3) = (fun _ => 0) from up1_s _ _ _, vp_cell_i]
    rcases hkd with rfl | rfl <;> rfl
  have hz : List.map (tv G) (Value.ref (hN h + 3) :: st) = Value.ref H.size :: st.map (tv G) := by
    rw [← ha]; rfl
  have K1 := kk p e R s m args below meth c H1 locs (cells + 1) (slots + N) lv C a1 a2 (by omega) (by omega) hr (S_grow hS z1 o1) hl
  rw [hz] at K1
  exact K1
theorem Ev_newq {kd idx : Nat} {n : Int32} {E : String} (N : Nat) (hdg : decode M.2.1 pc = .ok (.anewarray idx, 3)) (hty : kdT kd = .object E) (hkd : 15 ≤ kd) (hkd2 : kd ≤ 18) (hw : Cond.classLink M.1.cls idx E ∈ aTs) (hw2 : Cond.arrayOver (.object E) ∈ lw_tbl) (hn : n.toInt = (N : Int)) (hbig : N ≤ 100000) (kk : Ev l G d mc ms M (pc + 3) ls (.ref (hN h + 3) :: st) (nA h kd N) Q) : Ev l G d (mc + 1) (ms + N) M pc ls (.int n :: st) h Q := by
  intro p e R s m args below meth c H locs cells slots lv C a1 a2 a3 a4 hP hS hl
  have hts := C.2.2.2.2.2.1
  have hov : va_AO E s := C.2.2.2.2.2.2.2.2.2.2.2.2.2.2.1 _ hw2 rfl
  have hnn := ix_nat hn
  refine W.anew C.1 C.2.1 C.2.2.2.2.1 (hts _ hw) (va_AO.use hov) rfl hdg rfl (ix_nn hn) (by rw [hnn]; exact Nat.le_trans (Nat.mul_le_mul hbig (Nat.le_refl 4)) (by decide)) (by omega) (by rw [hnn]; omega) fun cA kA comp f1 f2 f3 f4 => ?_
  rw [hnn]
  generalize hH1 : H.push ({ cls := cA, slots := Array.replicate N .null, vm := .none } : Cell) = H1
  have z1 : H1.size = H.size + 1 := by rw [← hH1, Array.size_push]
  have e1 : H1[H.size]? = some (arrV cA N (fun _ => .null)) := by rw [← hH1, Array.getElem?_push_size, ← arrV_new]
  have o1 : ∀ q : Nat, q < H.size → H1[q]? = H[q]? := fun q hq => by rw [← hH1, Array.getElem?_push, if_neg (Nat.ne_of_lt hq)]
  have ha : ad G (hN h + 3) = H.size := by rw [ad_3 G (by omega), hP.1]; omega
  have hcA : cA = gC G kd := by
    have h2 := (C.2.2.2.2.2.2.2.2.1.2 (kd - 13) _ (aTy_at G (by omega) hkd2)).2
    rw [hty] at h2
    obtain ⟨-, -, -, -, -, h4⟩ := h2
    exact Option.some.inj (f1.symm.trans h4)
  subst hcA
  have hr : aRp G (nA h kd N) H1 := by
    refine hP.grow z1 o1 rfl (fun a ha => up1_n _ _ ha) (fun b hb => aCl_nA hb) ?_
    rw [aCl_ref (h := nA h kd N) (kd := kd) (up1_s _ _ _) hkd]
    show H1[gB G + hN h]? = some (vp_cell _ _)
    rw [← hP.1, e1, show hL (nA h kd N) (hN h + 3) = N from up1_s _ _ _, show hY (nA h kd N) (hN h + 3) = (fun _ => none) from up1_s _ _ _, vp_cell_q]
    rfl
  have hz : List.map (tv G) (Value.ref (hN h + 3) :: st) = Value.ref H.size :: st.map (tv G) := by
    rw [← ha]; rfl
  have K1 := kk p e R s m args below meth c H1 locs (cells + 1) (slots + N) lv C a1 a2 (by omega) (by omega) hr (S_grow hS z1 o1) hl
  rw [hz] at K1
  exact K1
end EV
end
section
section EV
variable {l : Launch} {G : aG} {d mc ms : Nat} {M : aM} {pc : Nat} {ls st : List Value} {h : aH} {Q : Option Value → aH → Prop}
theorem kdT_o {kd : Nat} (h1 : 15 ≤ kd) (h2 : kd ≤ 18) : ∃ E, kdT kd = .object E := by rcases (show kd = 15 ∨ kd = 16 ∨ kd = 17 ∨ kd = 18 by omega) with rfl | rfl | rfl | rfl <;> exact ⟨_, rfl⟩
theorem Ev_aastN {i : Int32} {a kd : Nat} (j : Nat) (hdg : decode M.2.1 pc = .ok (.aastore, 1)) (hk : hK h a = kd) (h1 : 15 ≤ kd) (h2 : kd ≤ 18) (hi : i.toInt = (j : Int)) (hj : j < hL h a) (kk : Ev l G d mc ms M (pc + 1) ls st (sY h a j none) Q) : Ev l G d mc ms M pc ls (.null :: .int i :: .ref a :: st) h Q := by
  intro p e R s m args below meth c H locs cells slots lv C a1 a2 a3 a4 hP hS hl
  obtain ⟨E, hE⟩ := kdT_o h1 h2
  have ha := wl_rowQ hP hk h1 h2
  have hD := wl_D G h
  have hty : (aTy G)[kd - 13]? = some (gC G kd, .object E) := by rw [aTy_at G (by omega) h2, hE]
  refine va_WaastN (C := E) C.1 C.2.1 (hP.2.1 _ _ ha) ((C.2.2.2.2.2.2.2.2.1.2 (kd - 13) _ hty).1 (hL h a) (fun j => va_rf ((hY h a j).map (ad G)))) (fun q => by cases q) (by show ¬ (i < 0 ∨ (arrV _ _ _).slots.size ≤ _); rw [arrV_size]; exact ix_in hi hj) rfl rfl hdg fun H1 e0 z oq => ?_
  refine kk p e R s m args below meth c H1 _ cells slots lv C a1 a2 a3 a4 (hP.same rfl rfl z ?_) (hS.put z oq (hD.2 _ _ ha)) hl
  rw [← wl_setY (h' := sY h a j none) hP hk h1 h2 rfl rfl rfl rfl rfl rfl rfl (fun b hb => by
    funext q; exact if_neg hb)]
  refine hP.2.1.set hD ha ?_ oq
  show H1[ad G a]? = some (vp_cell _ _)
  rw [e0, ix_nat hi, vp_cell_q, vp_cell_q, arrV_store]
  congr 2
  funext q
  show updV _ _ _ _ = va_rf ((up2 (hY h) a j none a q).map (ad G))
  by_cases hq : q = j
  · subst hq
    simp [updV, up2, va_rf]
  · simp [updV, up2, hq]
theorem Ev_aast {i : Int32} {a b kd ci : Nat} {E : String} {r : vw_C} (j : Nat) (hdg : decode M.2.1 pc = .ok (.aastore, 1)) (hk : hK h a = kd) (h1 : 15 ≤ kd) (h2 : kd ≤ 18) (hE : kdT kd = .object E) (hb : hK h b = ci) (hc : vwCl[ci]? = some r) (hcast : r.1 = E ∨ Cond.castable r.1 E ∈ lw_tbl) (hi : i.toInt = (j : Int)) (hj : j < hL h a) (kk : Ev l G d mc ms M (pc + 1) ls st (sY h a j (some b)) Q) : Ev l G d mc ms M pc ls (.ref b :: .int i :: .ref a :: st) h Q := by
  intro p e R s m args below meth c H locs cells slots lv C a1 a2 a3 a4 hP hS hl
  have ha := wl_rowQ hP hk h1 h2
  have hD := wl_D G h
  have hKK := C.2.2.2.2.2.2.2.2.1
  have hty : (aTy G)[kd - 13]? = some (gC G kd, .object E) := by rw [aTy_at G (by omega) h2, hE]
  obtain ⟨r', hr', cellV, g1, g2, g3, -⟩ := hP.2.1 _ _ (wl_obj hP hb (vw_lt hc))
  have hcls := (hKK.1 ci r hc).2
  obtain ⟨kA, comp, k1, k2, k3, -⟩ := (hKK.2 (kd - 13) _ hty).2
  obtain ⟨kE, hkE, -⟩ := Vm.findClass_spec k3
  obtain ⟨kC, hkC, -⟩ := hcls.2
  have has : s.vm.assignable ((gD G).1 ci) comp = true := by
    rcases hcast with he | hca
    · rw [← he] at k3
      have hcomp : comp = (gD G).1 ci := Option.some.inj (k3.symm.trans hcls.1)
      rw [hcomp]; exact va_assign hcls
    · have hca := C.2.2.2.2.2.2.2.2.2.2.2.2.2.2.1 _ hca rfl
      obtain ⟨c0, t1, f1, f2, f3⟩ := Cond.castable_spec (va_Nw.use (A := args) rfl hca)
      cases hcls.1.symm.trans f1
      cases k3.symm.trans f2
      exact f3
  refine W.aast C.1 C.2.1 (hP.2.1 _ _ ha) (fun q h => by cases h) (fun h => by cases h) k1 k2 rfl hkE ⟨ix_nn hi, by show _ < (arrV _ _ _).slots.size; rw [arrV_size, ix_nat hi]; exact hj⟩ g1 (fun q h => by rw [g3] at h; cases h) (by rw [g2]; exact hkC) (by rw [g2]; exact has) rfl rfl hdg fun H1 e0 z oq => ?_
  refine kk p e R s m args below meth c H1 _ cells slots lv C a1 a2 a3 a4 (hP.same rfl rfl z ?_) (hS.put z oq (hD.2 _ _ ha)) hl
  rw [← wl_setY (h' := sY h a j (some b)) hP hk h1 h2 rfl rfl rfl rfl rfl rfl rfl (fun b hb => by
    funext q; exact if_neg hb)]
  refine hP.2.1.set hD ha ?_ oq
  show H1[ad G a]? = some (vp_cell _ _)
  rw [e0, ix_nat hi, vp_cell_q, vp_cell_q, arrV_store]
  congr 2
  funext q
  show updV _ _ _ _ = va_rf ((up2 (hY h) a j (some b) a q).map (ad G))
  by_cases hq : q = j
  · subst hq
    simp [updV, up2, va_rf]
  · simp [updV, up2, hq]
/-- an object's class, as the calls and casts want it -/
theorem aRecv {p : Program} {s : State} {m : MethodId} {args : Array Value} {meth : Method} {c : Code} {H : Heap} {a ci : Nat} {r : vw_C} (C : aCx G M p s m args meth c) (hP : aRp G h H) (hk : hK h a = ci) (hc : vwCl[ci]? = some r) : ∃ cell : Cell, H[ad G a]? = some cell ∧ cell.vm.isStatics = false ∧ s.vm.findClass r.1 = some cell.cls :=
  va_recv C.2.2.2.2.2.2.2.2.1 hP.2.1 hc (wl_obj hP hk (vw_lt hc))
theorem Ev_cast {idx a ci : Nat} {r : vw_C} (hdg : decode M.2.1 pc = .ok (.checkcast idx, 3)) (hk : hK h a = ci) (hc : vwCl[ci]? = some r) (hw : Cond.classLink M.1.cls idx r.1 ∈ aTs) (kk : Ev l G d mc ms M (pc + 3) ls (.ref a :: st) h Q) : Ev l G d mc ms M pc ls (.ref a :: st) h Q := by
  intro p e R s m args below meth c H locs cells slots lv C a1 a2 a3 a4 hP hS hl
  exact va_castS C.1 C.2.1 C.2.2.2.2.1 (C.2.2.2.2.2.1 _ hw) (C.2.2.2.2.2.2.2.2.1.1 ci r hc).2 (aRecv C hP hk hc) hdg (kk p e R s m args below meth c H locs cells slots lv C a1 a2 a3 a4 hP hS hl)
theorem Ev_mirror {idx : Nat} (hdg : decode M.2.1 pc = .ok (.ldc idx, 2)) (hw : Cond.classLink M.1.cls idx "[Ljava/lang/Object;" ∈ aTs) (kk : Ev l G d mc ms M (pc + 2) ls (.ref 2 :: st) h Q) : Ev l G d mc ms M pc ls st h Q := by
  intro p e R s m args below meth c H locs cells slots lv C a1 a2 a3 a4 hP hS hl
  exact va_ldcM C.1 C.2.1 C.2.2.2.2.1 (C.2.2.2.2.2.1 _ hw) C.2.2.2.2.2.2.2.2.2.2.2.2.2.1 hdg (kk p e R s m args below meth c H locs cells slots lv C a1 a2 a3 a4 hP hS hl)
theorem cat_sum (G : aG) {st : List Value} (h : st.all okv = true) : ((st.map (tv G)).map fun v => v.category).sum = st.length := by
  induction st with
  | nil => rfl
  | cons v st ih =>
    simp only [List.all_cons, Bool.and_eq_true] at h
    simp only [List.map_cons, List.sum_cons, List.length_cons, okv_cat G h.1, ih h.2]
    omega
theorem Ev_objI {idx a : Nat} (hdg : decode M.2.1 pc = .ok (.invokespecial idx, 3)) (hd : 1 ≤ d) (hst : st.all okv = true) (hlen : st.length ≤ 8) (hw : Cond.methodLink M.1.cls idx objectInit ∈ aTs) (hw2 : Cond.instanceMethod objectInit ∈ aTs) (hw3 : Cond.code objectInit ⟨#[0xb1]⟩ 1 none ∈ aTs) (kk : Ev l G d mc ms M (pc + 3) ls st h Q) : Ev l G d mc ms M pc ls (.ref a :: st) h Q := by
  intro p e R s m args below meth c H locs cells slots lv C a1 a2 a3 a4 hP hS hl
  have hts := C.2.2.2.2.2.1
  refine W.objInit C.1 C.2.1 C.2.2.2.2.1 (hts _ hw) (hts _ hw2) (hts _ hw3) rfl (by rw [C.2.2.1]; exact hl.1) rfl hdg (by omega) (by show 2 * 0 + ((st.map (tv G)).map fun v => v.category).sum + 12 ≤ R.locals; rw [cat_sum G hst]; omega) ?_
  exact kk p e R s m args below meth c H locs cells slots lv C a1 a2 a3 a4 hP hS hl
theorem Ev_getC {idx a : Nat} (hdg : decode M.2.1 pc = .ok (.invokevirtual idx, 3)) (hd : 1 ≤ d) (hst : st.all okv = true) (hlen : st.length ≤ 8) (hk : hK h a = 15) (hw : Cond.methodLink M.1.cls idx ⟨"java/lang/Object", "getClass", "()Ljava/lang/Class;"⟩ ∈ aTs) (hw2 : Cond.declares ⟨"java/lang/Object", "getClass", "()Ljava/lang/Class;"⟩ ∈ lw_tbl) (hw3 : Cond.selects "[Ljava/lang/Object;" ⟨"java/lang/Object", "getClass", "()Ljava/lang/Class;"⟩ ⟨"java/lang/Object", "getClass", "()Ljava/lang/Class;"⟩ ∈ aTs) (hw4 : Cond.instanceMethod ⟨"java/lang/Object", "getClass", "()Ljava/lang/Class;"⟩ ∈ aTs) (hw5 : Cond.native ⟨"java/lang/Object", "getClass", "()Ljava/lang/Class;"⟩ ∈ aTs) (kk : Ev l G d mc ms M (pc + 3) ls (.ref 2 :: st) h Q) : Ev l G d mc ms M pc ls (.ref a :: st) h Q := by
  intro p e R s m args below meth c H locs cells slots lv C a1 a2 a3 a4 hP hS hl
  have hts := C.2.2.2.2.2.1
  have hty : (aTy G)[2]? = some (gC G 15, .object "java/lang/Object") := rfl
  refine va_getC (C := "[Ljava/lang/Object;") C.1 C.2.1 (by rw [C.2.2.1]; exact hl.1.symm) C.2.2.2.2.1 (hts _ hw) (va_Nw.use (A := args) rfl (C.2.2.2.2.2.2.2.2.2.2.2.2.2.2.1 _ hw2 rfl)) (hts _ hw3) (hts _ hw4) (hts _ hw5) C.2.2.2.2.2.2.2.2.2.2.2.2.2.1 ?_ (by omega) (by rw [cat_sum G hst]; omega) hdg (kk p e R s m args below meth c H locs cells slots lv C a1 a2 a3 a4 hP hS hl)
  exact ⟨_, hP.2.1 _ _ (wl_rowQ hP hk (by omega) (by omega)), rfl, va_nmO (C.2.2.2.2.2.2.2.2.1.2 2 _ hty).2 (by decide)⟩
end EV
end
section
theorem ix_of_nat (z : Int32) (hz : ¬ z < 0) : z.toInt = (z.toNatClampNeg : Int) := by
  have hz0 : (0 : Int) ≤ z.toInt := by
    have := Int32.not_lt.mp hz
    simpa using Int32.le_iff_toInt_le.mp this
  show z.toInt = ((z.toInt.toNat : Nat) : Int)
  omega
theorem cpy_map {α β : Type} (g : α → β) (f f2 : Nat → α) (a b n : Nat) : (fun j => g (va_cpy f f2 a b n j)) = va_cpy (fun j => g (f j)) (fun j => g (f2 j)) a b n := by
  funext j
  unfold va_cpy
  split <;> rfl
section EV
variable {l : Launch} {G : aG} {d mc ms : Nat} {M : aM} {pc : Nat} {ls st : List Value} {h : aH} {Q : Option Value → aH → Prop}
theorem Ev_copyI {idx a a0 : Nat} {sp dp n : Int32} (sp' dp' n' : Nat) (hdg : decode M.2.1 pc = .ok (.invokestatic idx, 3)) (hd : 1 ≤ d) (hst : st.all okv = true) (hlen : st.length ≤ 8) (hk0 : hK h a0 = 13) (hk1 : hK h a = 13) (w1 : Cond.methodLink M.1.cls idx arraycopyName ∈ aTs) (w2 : Cond.native arraycopyName ∈ aTs) (w3 : Cond.static arraycopyName ∈ aTs) (w4 : Cond.initialized "java/lang/System" ∈ aTs)
    (e1 : sp.toInt = (sp' : Int)) (e2 : dp.toInt = (dp' : Int)) (e3 : n.toInt = (n' : Int)) (b1 : sp' + n' ≤ hL h a0) (b2 : dp' + n' ≤ hL h a) (kk : Ev l G d mc ms M (pc + 3) ls st (sXs h a (va_cpy (hX h a0) (hX h a) sp' dp' n')) Q) : Ev l G d mc ms M pc ls (.int n :: .int dp :: .ref a :: .int sp :: .ref a0 :: st) h Q := by
  intro p e R s m args below meth c H locs cells slots lv C a1 a2 a3 a4 hP hS hl T hT X
  have hts := C.2.2.2.2.2.1
  have hKK := C.2.2.2.2.2.2.2.2.1
  have hw0 := wl_rowI hP hk0 (Or.inl rfl)
  have hw1 := wl_rowI hP hk1 (Or.inl rfl)
  have hD := wl_D G h
  have hty : (aTy G)[0]? = some (gC G 13, .int) := rfl
  have hc0 : H[ad G a0]? = some (vp_cell (gC G 13) (hL h a0, .inl (hX h a0))) := hP.2.1 _ _ hw0
  have hc1 : H[ad G a]? = some (vp_cell (gC G 13) (hL h a, .inl (hX h a))) := hP.2.1 _ _ hw1
  obtain ⟨-, k0, hk0', cm0, hkk0⟩ := (hKK.2 0 _ hty).1 (hL h a0) (fun j => .int (hX h a0 j))
  have hn1 := ix_nat e1
  have hn2 := ix_nat e2
  have hn3 := ix_nat e3
  obtain ⟨vm', X', step⟩ := X.arraycopy C.1 C.2.2.2.2.1 (hts _ w1) (hts _ w2) (hts _ w3) (hts _ w4) (src := ad G a0) (dst := ad G a) (cs := vp_cell (gC G 13) (hL h a0, .inl (hX h a0))) (cd := vp_cell (gC G 13) (hL h a, .inl (hX h a))) (srcPos := sp) (destPos := dp) (n := n) (by rw [hT]; exact hc0) (by rw [hT]; exact hc1)
    (fun _ h => by cases h) (fun _ h => by cases h) (fun h => by cases h) (fun h => by cases h) hk0' hk0' hkk0 hkk0 (by simp) (ix_nn e1) (ix_nn e2) (ix_nn e3)
    (by rw [e1, e3]; show ¬ _ > ((arrV _ (hL h a0) (fun j => .int (hX h a0 j))).slots.size : Int); rw [arrV_size]; omega)
    (by rw [e2, e3]; show ¬ _ > ((arrV _ (hL h a) (fun j => .int (hX h a j))).slots.size : Int); rw [arrV_size]; omega)
    (fun vm₁ _ i hi => by
      have e0 : (vp_cell (gC G 13) (hL h a0, .inl (hX h a0))).slots.getD (sp.toNatClampNeg + i) .null = .int (hX h a0 (sp.toNatClampNeg + i)) := by
        show (arrV _ (hL h a0) (fun j => .int (hX h a0 j))).slots.getD _ _ = _
        rw [Array.getD_eq_getD_getElem?, arrV_read _ _ (by omega)]
        rfl
      refine ⟨?_, ?_⟩
      · rw [e0]; rfl
      · rw [e0]; exact trivial)
    (g := F0 m pc lv (List.map (tv G) (.int n :: .int dp :: .ref a :: .int sp :: .ref a0 :: st))) rfl (by rw [C.2.2.1]; exact hl.1) (rest := st.map (tv G)) rfl (by rw [C.2.1]; exact hdg) (by omega) (by
      show 2 * 0 + ((st.map (tv G)).map fun v => v.category).sum + _ ≤ _
      rw [cat_sum G hst]
      have hw : nativeFrameWords "java/lang/System" "arraycopy" 5 ≤ 20 := by decide
      omega)
  have ec : copied (vp_cell (gC G 13) (hL h a0, .inl (hX h a0))) (vp_cell (gC G 13) (hL h a, .inl (hX h a))) sp dp n = vp_cell (gC G 13) (hL h a, .inl (va_cpy (hX h a0) (hX h a) sp.toNatClampNeg dp.toNatClampNeg n.toNatClampNeg)) := va_copied (fun z => .int z) _ _ (hX h a0) (hX h a) (by omega)
  rw [ec, hn1, hn2, hn3] at X' step
  have hlt : ad G a < H.size := (Array.getElem?_eq_some_iff.mp hc1).1
  have hheap : ((T.setVm vm').setCell (ad G a) (vp_cell (gC G 13) (hL h a, .inl (va_cpy (hX h a0) (hX h a) sp' dp' n')))).heap = H.setIfInBounds (ad G a) (vp_cell (gC G 13) (hL h a, .inl (va_cpy (hX h a0) (hX h a) sp' dp' n'))) := by rw [← hT]; rfl
  have oq : ∀ q : Nat, q ≠ ad G a → (H.setIfInBounds (ad G a) (vp_cell (gC G 13) (hL h a, .inl (va_cpy (hX h a0) (hX h a) sp' dp' n'))))[q]? = H[q]? := fun q hq => by simp [Array.getElem?_setIfInBounds, Ne.symm hq]
  have hr : aRp G (sXs h a (va_cpy (hX h a0) (hX h a) sp' dp' n')) (H.setIfInBounds (ad G a) (vp_cell (gC G 13) (hL h a, .inl (va_cpy (hX h a0) (hX h a) sp' dp' n')))) := by
    refine hP.same rfl rfl (by simp) ?_
    rw [← wl_setX (h' := sXs h a (va_cpy (hX h a0) (hX h a) sp' dp' n')) hP hk1 (Or.inl rfl) rfl rfl rfl rfl rfl rfl (up1_s _ _ _) (fun b hb => up1_n _ _ hb)]
    exact hP.2.1.set hD hw1 (show (H.setIfInBounds (ad G a) _)[ad G a]? = some _ by simp [Array.getElem?_setIfInBounds, hlt]) oq
  obtain ⟨t, b1, b2⟩ := kk p e R s m args below meth c _ _ cells slots lv C a1 a2 a3 a4 hr ⟨by simp; exact hS.1, fun q g1 g2 => by
      rw [oq q (fun e => g2 (by rw [e]; exact hD.2 _ _ hw1))]
      exact hS.2.1 q g1 g2, fun q hq => by
      rcases List.mem_append.mp hq with h | h
      · exact hS.2.2 q h
      · obtain ⟨z, -, hz⟩ := List.mem_map.mp h
        rw [← hz]
        exact hD.2 _ _ hw1⟩ hl _ hheap X'
  exact ⟨t, step t b1, b2⟩
theorem Ev_copyQ {idx a a0 ci : Nat} {r : vw_C} {sp dp n : Int32} (sp' dp' n' : Nat) (hdg : decode M.2.1 pc = .ok (.invokestatic idx, 3)) (hd : 1 ≤ d) (hst : st.all okv = true) (hlen : st.length ≤ 8) (hk0 : hK h a0 = 15) (hk1 : hK h a = 15) (w1 : Cond.methodLink M.1.cls idx arraycopyName ∈ aTs) (w2 : Cond.native arraycopyName ∈ aTs) (w3 : Cond.static arraycopyName ∈ aTs) (w4 : Cond.initialized "java/lang/System" ∈ aTs) (hc : vwCl[ci]? = some r) (hcast : Cond.castable r.1 "java/lang/Object" ∈ lw_tbl)
    (e1 : sp.toInt = (sp' : Int)) (e2 : dp.toInt = (dp' : Int)) (e3 : n.toInt = (n' : Int)) (b1 : sp' + n' ≤ hL h a0) (b2 : dp' + n' ≤ hL h a) (hel : ∀ i, i < n' → ∀ y, hY h a0 (sp' + i) = some y → hK h y = ci) (kk : Ev l G d mc ms M (pc + 3) ls st (sYs h a (va_cpy (hY h a0) (hY h a) sp' dp' n')) Q) : Ev l G d mc ms M pc ls (.int n :: .int dp :: .ref a :: .int sp :: .ref a0 :: st) h Q := by
  intro p e R s m args below meth c H locs cells slots lv C a1 a2 a3 a4 hP hS hl T hT X
  have hts := C.2.2.2.2.2.1
  have hKK := C.2.2.2.2.2.2.2.2.1
  have hw0 := wl_rowQ hP hk0 (by omega) (by omega)
  have hw1 := wl_rowQ hP hk1 (by omega) (by omega)
  have hD := wl_D G h
  have hty : (aTy G)[2]? = some (gC G 15, .object "java/lang/Object") := rfl
  generalize hf0 : (fun j => (hY h a0 j).map (ad G)) = f0 at hw0
  generalize hf1 : (fun j => (hY h a j).map (ad G)) = f1 at hw1
  have hc0 : H[ad G a0]? = some (vp_cell (gC G 15) (hL h a0, .inr (.inr (.inr (.inr f0))))) := hP.2.1 _ _ hw0
  have hc1 : H[ad G a]? = some (vp_cell (gC G 15) (hL h a, .inr (.inr (.inr (.inr f1))))) := hP.2.1 _ _ hw1
  obtain ⟨-, k0, hk0', cm0, hkk0⟩ := (hKK.2 2 _ hty).1 (hL h a0) (fun j => va_rf (f0 j))
  have hn1 := ix_nat e1
  have hn2 := ix_nat e2
  have hn3 := ix_nat e3
  have hca := C.2.2.2.2.2.2.2.2.2.2.2.2.2.2.1 _ hcast rfl
  obtain ⟨cc0, tt1, ff1, ff2, ff3⟩ := Cond.castable_spec (va_Nw.use (A := args) rfl hca)
  obtain ⟨vm', X', step⟩ := X.arraycopy C.1 C.2.2.2.2.1 (hts _ w1) (hts _ w2) (hts _ w3) (hts _ w4) (src := ad G a0) (dst := ad G a) (cs := vp_cell (gC G 15) (hL h a0, .inr (.inr (.inr (.inr f0))))) (cd := vp_cell (gC G 15) (hL h a, .inr (.inr (.inr (.inr f1))))) (srcPos := sp) (destPos := dp) (n := n) (by rw [hT]; exact hc0) (by rw [hT]; exact hc1)
    (fun _ h => by cases h) (fun _ h => by cases h) (fun h => by cases h) (fun h => by cases h) hk0' hk0' hkk0 hkk0 rfl (ix_nn e1) (ix_nn e2) (ix_nn e3)
    (by rw [e1, e3]; show ¬ _ > ((arrV _ (hL h a0) (fun j => va_rf (f0 j))).slots.size : Int); rw [arrV_size]; omega)
    (by rw [e2, e3]; show ¬ _ > ((arrV _ (hL h a) (fun j => va_rf (f1 j))).slots.size : Int); rw [arrV_size]; omega)
    (fun vm₁ hal i hi => by
      have e0 : (vp_cell (gC G 15) (hL h a0, .inr (.inr (.inr (.inr f0))))).slots.getD (sp.toNatClampNeg + i) .null = va_rf (f0 (sp.toNatClampNeg + i)) := by
        show (arrV _ (hL h a0) (fun j => va_rf (f0 j))).slots.getD _ _ = _
        rw [Array.getD_eq_getD_getElem?, arrV_read _ _ (by omega)]
        rfl
      rw [e0]
      cases hy : f0 (sp.toNatClampNeg + i) with
      | none => exact ⟨rfl, trivial⟩
      | some y =>
        rw [← hf0, hn1] at hy
        obtain ⟨y', hy1, hy2⟩ := Option.map_eq_some_iff.mp hy
        obtain ⟨cellV, g1, g2, g3⟩ := aRecv C hP (hel i (by omega) y' hy1) hc
        rw [hy2] at g1
        obtain ⟨kA, comp, r1, r2, r3, -⟩ := (hKK.2 2 _ hty).2
        cases hk0'.symm.trans r1
        cases hkk0.symm.trans r2
        obtain ⟨kC, hkC, -⟩ := Vm.findClass_spec g3
        obtain ⟨kE, hkE, -⟩ := Vm.findClass_spec r3
        obtain ⟨kC', hkC', -⟩ := hal.2.2 _ _ hkC
        obtain ⟨kE', hkE', -⟩ := hal.2.2 _ _ hkE
        refine ⟨rfl, cellV, (show T.heap[y]? = some cellV by rw [hT]; exact g1), (fun q h => by rw [h] at g2; cases g2), ⟨kC', hkC'⟩, ?_, ?_⟩
        · exact ⟨kE', hkE'⟩
        · show vm₁.assignable _ _ = true
          rw [hal.assignable]
          cases g3.symm.trans ff1
          cases r3.symm.trans ff2
          exact ff3)
    (g := F0 m pc lv (List.map (tv G) (.int n :: .int dp :: .ref a :: .int sp :: .ref a0 :: st))) rfl (by rw [C.2.2.1]; exact hl.1) (rest := st.map (tv G)) rfl (by rw [C.2.1]; exact hdg) (by omega) (by
      show 2 * 0 + ((st.map (tv G)).map fun v => v.category).sum + _ ≤ _
      rw [cat_sum G hst]
      have hw : nativeFrameWords "java/lang/System" "arraycopy" 5 ≤ 20 := by decide
      omega)
  have ec : copied (vp_cell (gC G 15) (hL h a0, .inr (.inr (.inr (.inr f0))))) (vp_cell (gC G 15) (hL h a, .inr (.inr (.inr (.inr f1))))) sp dp n = vp_cell (gC G 15) (hL h a, .inr (.inr (.inr (.inr (va_cpy f0 f1 sp.toNatClampNeg dp.toNatClampNeg n.toNatClampNeg))))) := va_copied (fun z => va_rf z) _ _ f0 f1 (by omega)
  rw [ec, hn1, hn2, hn3] at X' step
  have hlt : ad G a < H.size := (Array.getElem?_eq_some_iff.mp hc1).1
  generalize hnc : vp_cell (gC G 15) (hL h a, .inr (.inr (.inr (.inr (va_cpy f0 f1 sp' dp' n'))))) = nc at X' step
  have hheap : ((T.setVm vm').setCell (ad G a) nc).heap = H.setIfInBounds (ad G a) nc := by rw [← hT]; rfl
  have oq : ∀ q : Nat, q ≠ ad G a → (H.setIfInBounds (ad G a) nc)[q]? = H[q]? := fun q hq => by simp [Array.getElem?_setIfInBounds, Ne.symm hq]
  have hr : aRp G (sYs h a (va_cpy (hY h a0) (hY h a) sp' dp' n')) (H.setIfInBounds (ad G a) nc) := by
    refine hP.same rfl rfl (by simp) ?_
    rw [← wl_setY (f := va_cpy f0 f1 sp' dp' n') (h' := sYs h a (va_cpy (hY h a0) (hY h a) sp' dp' n')) hP hk1 (by omega) (by omega) rfl rfl rfl rfl rfl rfl (by
      rw [show hY (sYs h a (va_cpy (hY h a0) (hY h a) sp' dp' n')) a = va_cpy (hY h a0) (hY h a) sp' dp' n' from up1_s _ _ _, cpy_map, hf0, hf1]) (fun b hb => up1_n _ _ hb)]
    refine hP.2.1.set hD hw1 ?_ oq
    show (H.setIfInBounds (ad G a) nc)[ad G a]? = some (vp_cell _ _)
    rw [hnc]
    simp [Array.getElem?_setIfInBounds, hlt]
  obtain ⟨t, b1, b2⟩ := kk p e R s m args below meth c _ _ cells slots lv C a1 a2 a3 a4 hr ⟨by simp; exact hS.1, fun q g1 g2 => by
      rw [oq q (fun e => g2 (by rw [e]; exact hD.2 _ _ hw1))]
      exact hS.2.1 q g1 g2, fun q hq => by
      rcases List.mem_append.mp hq with h | h
      · exact hS.2.2 q h
      · obtain ⟨z, -, hz⟩ := List.mem_map.mp h
        rw [← hz]
        exact hD.2 _ _ hw1⟩ hl _ hheap X'
  exact ⟨t, step t b1, b2⟩
end EV
end
section
theorem aTs_good : ∀ w ∈ aTs, (w.onTables && w.keeps) = true ∨ ∃ ty, w = .arrayClass ty := fun w hw => good_of_word (List.mem_filter.mp hw).2
def en (n : Nat) (avs : List Value) : List Value := avs ++ List.replicate (n - avs.length) (.retAddr 0)
theorem lg_sl_ok (G : aG) : ∀ {avs : List Value}, avs.all okv = true → lg_sl (avs.map (tv G)) = avs.map (fun v => Slot.val (tv G v)) := by
  intro avs
  induction avs with
  | nil => intro _; rfl
  | cons v avs ih =>
    intro h
    simp only [List.all_cons, Bool.and_eq_true] at h
    have h1 := okv_cat G h.1
    show (if (tv G v).category = 2 then _ else _) ++ lg_sl (avs.map (tv G)) = _
    rw [h1, ih h.2]
    rfl
theorem lv_args_ok (G : aG) : ∀ {avs : List Value} (i : Nat), avs.all okv = true → ∀ (j : Nat) (v : Value), avs[j]? = some v → (i + j, tv G v) ∈ lv_args i (avs.map (tv G)) := by
  intro avs
  induction avs with
  | nil => intro i _ j v hj; simp at hj
  | cons w avs ih =>
    intro i h j v hj
    simp only [List.all_cons, Bool.and_eq_true] at h
    have h1 := okv_cat G h.1
    show _ ∈ (i, tv G w) :: lv_args (if (tv G w).category = 2 then i + 2 else i + 1) (avs.map (tv G))
    rw [h1]
    cases j with
    | zero =>
      simp at hj
      subst hj
      exact List.mem_cons_self
    | succ j =>
      refine List.mem_cons_of_mem _ ?_
      have := ih (i + 1) h.2 j v (by simpa using hj)
      rw [show i + (j + 1) = i + 1 + j by omega]
      exact this
theorem aLv_entry (G : aG) {avs : List Value} {n : Nat} (h : avs.all okv = true) (hn : avs.length ≤ n) : aLv G ((lg_sl (avs.map (tv G)) ++ List.replicate (n - (lg_sl (avs.map (tv G))).length) Slot.unset).toArray) n (en n avs) := by
  have hl : (lg_sl (avs.map (tv G))).length ≤ n := by rw [lg_sl_ok G h, List.length_map]; exact hn
  obtain ⟨h1, h2, h3⟩ := lv_entry (avs.map (tv G)) (n := n) hl
  refine ⟨h1, h2, by simp [en]; omega, fun i v hi hv => ?_⟩
  unfold en at hi
  rw [List.getElem?_append] at hi
  split at hi
  · have := lv_args_ok G 0 h i v hi
    rw [Nat.zero_add] at this
    exact h3 _ this
  · rw [List.getElem?_replicate] at hi
    split at hi
    · cases hi; cases hv
    · cases hi
def aWs (M : aM) : List Cond := Cond.code M.1 M.2.1 M.2.2.1 M.2.2.2 :: aTs
def aPc (G : aG) (avs : List Value) (h : aH) : Array Value → State → Prop := va_Pc (avs.map (tv G)) (fun U => aRp G h U.heap ∧ aWd G U U.heap)
section EV
variable {l : Launch} {G : aG} {d mc ms : Nat} {M : aM} {pc : Nat} {ls st : List Value} {h : aH} {Q : Option Value → aH → Prop}
theorem ev_met {avs : List Value} (hy : plainName M.1.cls = true) (hok : avs.all okv = true) (hn : avs.length ≤ M.2.2.1) (hC : Ev l G d mc ms M 0 (en M.2.2.1 avs) [] h Q) : Met l M.1 (aWs M) ({ frames := d, cells := mc, slots := ms, locals := 40 * d }) (aPc G avs h) (aQ G Q) mc ms (fun q => gB G ≤ q) := by
  refine Met.ofW (cc := M.2.1) (maxL := M.2.2.1) (ret := M.2.2.2) hy rfl ?_
  intro p e s m args below meth c s₁ B hml hv
  obtain ⟨rfl, hRp, hWd⟩ := hv
  have hts := atoms_spec (ws := aWs M) B.pre
  rw [lg_entry_eq]
  exact hC p e _ s m _ below meth c s.heap [] 0 0 _ ⟨B.exec, B.bytes, hml, B.returns, findClass_of_methodNamed B.named, fun w hw => hts w (List.mem_cons_of_mem _ hw), B.notSynchronized, fun hz => (name_of_methodNamed B.named B.method).1.trans hz, hWd⟩ (Nat.le_refl _) (Nat.le_refl _) (Nat.le_of_eq (Nat.zero_add _)) (Nat.le_of_eq (Nat.zero_add _)) hRp va_S.rf (aLv_entry G hok hn)
theorem aPc_blind {avs : List Value} : FrameBlind (aPc G avs h) := by
  intro a U g mk hq
  obtain ⟨h1, h2, h3⟩ := hq
  refine ⟨h1, h2, ?_⟩
  obtain ⟨w1, w2, w3, w4, w5, w6, w7, w8, w9⟩ := h3
  have al : U.vm.Alike (U.calling g mk a).vm := Vm.Alike.refl U.vm
  exact ⟨va_K.moved al w1, w2.moved al, w3, w4.moved al, w5.moved al, w6.moved al, fun w hw hk => (show w.before #[] (U.calling g mk a) = true from by
    have h9 := w7 w hw hk
    cases w with
    | castable => exact va_Nw.same rfl rfl h9
    | methodLinkNest => exact va_Nw.same rfl rfl h9
    | declares => exact va_Nw.same rfl rfl h9
    | arrayOver t => cases t <;> first | (exact va_AO.moved al h9) | (simp [aWk] at hk)
    | _ => simp [aWk] at hk), w8, w9⟩
theorem aPc_pre {avs : List Value} {p : Program} {s : State} {m : MethodId} {args : Array Value} {meth : Method} {c : Code} {H : Heap} {locs : List Loc} (C : aCx G M p s m args meth c) (hP : aRp G h H) (hS : va_S (fun q => gB G ≤ q) s.heap H locs) : ∀ U : State, U.heap = H → s.WarmedH U.vm → aPc G avs h (avs.map (tv G)).toArray U := by
  intro U hU hW
  have hwd := C.2.2.2.2.2.2.2.2
  refine ⟨rfl, by rw [hU]; exact hP, ?_⟩
  rw [hU]
  exact hwd.warm hW (by rw [hP.1]; exact Nat.le_add_right _ _) (fun q hq => hS.2.1 q (Nat.lt_of_lt_of_le hq hwd.2.2.2.2.2.2.2.1) (by omega))
theorem call_fin {p : Program} {e : Env} {R : Room} {s : State} {m : MethodId} {args a : Array Value} {below : List Frame} {meth : Method} {c : Code} {H : Heap} {locs : List Loc} {cells slots : Nat} {lv : Array Slot} {st0 : List Value} {mc1 ms1 : Nat} {Q' : Option Value → aH → Prop} (C : aCx G M p s m args meth c) (a1 : d ≤ R.frames) (a2 : 40 * d ≤ R.locals) (a3 : cells + mc1 + mc ≤ R.cells) (a4 : slots + ms1 + ms ≤ R.slots) (hS : va_S (fun q => gB G ≤ q) s.heap H locs) (hl : aLv G lv M.2.2.1 ls)
    (hr : va_Run p l e R s m args below meth c H locs cells slots mc1 ms1 (F0 m pc lv st0) (st.map (tv G)) (aQ G Q' a) (fun q => gB G ≤ q)) (kk : ∀ v h', Q' v h' → Ev l G d mc ms M (pc + 3) ls (v.toList ++ st) h' Q) : W p l e R s m args below meth c H locs cells slots (MQ below (aQ G Q) args s R.cells R.slots (fun q => gB G ≤ q)) (F0 m pc lv st0) := by
  intro T hT X
  obtain ⟨v, st₀, t, T', L, h0, X', hL, e1, e2, ⟨v', h', e3, hq, hP', hpre, hsz⟩, go⟩ := hr T hT X
  have ev : v = v'.map (tv G) := Outcome.returned.inj e3
  subst ev
  rw [h0] at hpre hsz
  have hwd := C.2.2.2.2.2.2.2.2
  have hst : (v'.map (tv G)).toList ++ st.map (tv G) = List.map (tv G) (v'.toList ++ st) := by cases v' <;> rfl
  rw [hst] at go
  rw [← e1] at hP' hpre hsz
  obtain ⟨t2, b1, b2⟩ := kk v' h' hq p e R s m args below meth c T'.heap (locs ++ L) (cells + mc1) (slots + ms1) lv C a1 a2 (by omega) (by omega) hP' ⟨Nat.le_trans hS.1 hsz, fun q h1 h2 => by
      rw [hpre q (Nat.not_le.mp h2)]
      exact hS.2.1 q h1 h2, fun q hq => by
      rcases List.mem_append.mp hq with h | h
      · exact hS.2.2 q h
      · exact hL q h⟩ hl T' rfl X'
  exact ⟨t2, go t2 b1, b2⟩
/-- the callee's own words -/
def aCo (Mc : aM) (n : Nat) : Prop := Cond.code Mc.1 Mc.2.1 Mc.2.2.1 Mc.2.2.2 ∈ aTs ∧ Cond.initialized Mc.1.cls ∈ aTs ∧ Mc.1.cls ≠ "java/lang/invoke/MethodHandle" ∧ Mc.1.cls ≠ "java/lang/invoke/VarHandle" ∧ (parseMethodDescriptor Mc.1.desc).map (fun d => d.parameters.length) = some n ∧ plainName Mc.1.cls = true ∧ Mc.2.2.1 ≤ 20
theorem aWs_good (M : aM) {n : Nat} (h : aCo M n) : GoodIn aTs (aWs M) := by
  intro w hw
  rcases List.mem_cons.mp hw with e | hw
  · rw [e]; exact ⟨h.1, aTs_good _ h.1⟩
  · exact ⟨hw, aTs_good _ hw⟩
variable {mc1 ms1 idx n : Nat} {Mc : aM} {avs : List Value} {Q' : Option Value → aH → Prop}
theorem Ev_callS (hdg : decode M.2.1 pc = .ok (.invokestatic idx, 3)) (hco : aCo Mc n) (w1 : Cond.methodLink M.1.cls idx Mc.1 ∈ aTs) (w2 : Cond.static Mc.1 ∈ aTs) (hn : avs.length = n) (hok : avs.all okv = true) (hml : n ≤ Mc.2.2.1) (hst : st.all okv = true) (hlen : st.length ≤ 8) (hC : Ev l G d mc1 ms1 Mc 0 (en Mc.2.2.1 avs) [] h Q') (kk : ∀ v h', Q' v h' → Ev l G (d + 1) mc ms M (pc + 3) ls (v.toList ++ st) h' Q) : Ev l G (d + 1) (mc1 + mc) (ms1 + ms) M pc ls (avs.reverse ++ st) h Q := by
  intro p e R s m args below meth c H locs cells slots lv C a1 a2 a3 a4 hP hS hl
  have hts := C.2.2.2.2.2.1
  have hM := ev_met hco.2.2.2.2.2.1 hok (by omega) hC
  refine call_fin (a := (avs.map (tv G)).toArray) (mc1 := mc1) (ms1 := ms1) C a1 a2 (by omega) (by omega) hS hl ?_ kk
  exact va_runS (Ts := aTs) (As := avs.map (tv G)) (rest := st.map (tv G)) ⟨C.1, C.2.1, C.2.2.1, C.2.2.2.2.1, hts⟩ hM ⟨callB_of n hts (aWs_good Mc hco) rfl rfl rfl (hts _ hco.2.1) (hts _ w1) ⟨hco.2.2.1, hco.2.2.2.1, hco.2.2.2.2.1⟩ ⟨a1, by have := hco.2.2.2.2.2.2; show 8 + (Mc.2.2.1 + 11) + 40 * d ≤ R.locals; omega⟩, hts _ w2⟩ ⟨aPc_blind, aPc_pre C hP hS⟩ rfl (by rw [List.length_map]; exact hn) hl.1 (by rw [← List.map_reverse, ← List.map_append]) (lv_room (by rw [cat_sum G hst]; exact hlen)) hdg ⟨by omega, by omega⟩
theorem Ev_callSN {host : String} (hdg : decode M.2.1 pc = .ok (.invokestatic idx, 3)) (hco : aCo Mc n) (w1 : Cond.methodLinkNest M.1.cls idx Mc.1 host ∈ lw_tbl) (w2 : Cond.static Mc.1 ∈ aTs) (hn : avs.length = n) (hok : avs.all okv = true) (hml : n ≤ Mc.2.2.1) (hst : st.all okv = true) (hlen : st.length ≤ 8) (hC : Ev l G d mc1 ms1 Mc 0 (en Mc.2.2.1 avs) [] h Q') (kk : ∀ v h', Q' v h' → Ev l G (d + 1) mc ms M (pc + 3) ls (v.toList ++ st) h' Q) : Ev l G (d + 1) (mc1 + mc) (ms1 + ms) M pc ls (avs.reverse ++ st) h Q := by
  intro p e R s m args below meth c H locs cells slots lv C a1 a2 a3 a4 hP hS hl
  have hts := C.2.2.2.2.2.1
  have hM := ev_met hco.2.2.2.2.2.1 hok (by omega) hC
  refine call_fin (a := (avs.map (tv G)).toArray) (mc1 := mc1) (ms1 := ms1) C a1 a2 (by omega) (by omega) hS hl ?_ kk
  exact va_runSN (Ts := aTs) (As := avs.map (tv G)) (rest := st.map (tv G)) ⟨C.1, C.2.1, C.2.2.1, C.2.2.2.2.1, hts⟩ hM ⟨va_cnB n hts (aWs_good Mc hco) rfl rfl rfl (C.2.2.2.2.2.2.2.2.2.2.2.2.2.2.1 _ w1 rfl) (hts _ hco.2.1) ⟨hco.2.2.1, hco.2.2.2.1, hco.2.2.2.2.1⟩ ⟨a1, by have := hco.2.2.2.2.2.2; show 8 + (Mc.2.2.1 + 11) + 40 * d ≤ R.locals; omega⟩, hts _ w2, trivial⟩ ⟨aPc_blind, aPc_pre C hP hS⟩ rfl (by rw [List.length_map]; exact hn) hl.1 (by rw [← List.map_reverse, ← List.map_append]) (lv_room (by rw [cat_sum G hst]; exact hlen)) hdg ⟨by omega, by omega⟩
theorem Ev_callV {a ci : Nat} {r : vw_C} (hdg : decode M.2.1 pc = .ok (.invokevirtual idx, 3)) (hco : aCo Mc n) (w1 : Cond.methodLink M.1.cls idx Mc.1 ∈ aTs) (w2 : Cond.instanceMethod Mc.1 ∈ aTs) (w3 : Cond.selects r.1 Mc.1 Mc.1 ∈ aTs) (hk : hK h a = ci) (hc : vwCl[ci]? = some r) (hn : avs.length = n) (hok : avs.all okv = true) (hml : n + 1 ≤ Mc.2.2.1) (hst : st.all okv = true) (hlen : st.length ≤ 8) (hC : Ev l G d mc1 ms1 Mc 0 (en Mc.2.2.1 (.ref a :: avs)) [] h Q') (kk : ∀ v h', Q' v h' → Ev l G (d + 1) mc ms M (pc + 3) ls (v.toList ++ st) h' Q) : Ev l G (d + 1) (mc1 + mc) (ms1 + ms) M pc ls (avs.reverse ++ .ref a :: st) h Q := by
  intro p e R s m args below meth c H locs cells slots lv C a1 a2 a3 a4 hP hS hl
  have hts := C.2.2.2.2.2.1
  have hM := ev_met (avs := .ref a :: avs) hco.2.2.2.2.2.1 (by simp only [List.all_cons, hok]; rfl) (by simp; omega) hC
  refine call_fin (a := (Value.ref (ad G a) :: avs.map (tv G)).toArray) (mc1 := mc1) (ms1 := ms1) C a1 a2 (by omega) (by omega) hS hl ?_ kk
  exact va_runV (Ts := aTs) (C := r.1) (b := ad G a) (As := avs.map (tv G)) (rest := st.map (tv G)) ⟨C.1, C.2.1, C.2.2.1, C.2.2.2.2.1, hts⟩ hM ⟨callB_of n hts (aWs_good Mc hco) rfl rfl rfl (hts _ hco.2.1) (hts _ w1) ⟨hco.2.2.1, hco.2.2.2.1, hco.2.2.2.2.1⟩ ⟨a1, by have := hco.2.2.2.2.2.2; show 8 + (Mc.2.2.1 + 11) + 40 * d ≤ R.locals; omega⟩, hts _ w2, hts _ w3⟩ ⟨aPc_blind, aRecv C hP hk hc, aPc_pre C hP hS⟩ rfl (by rw [List.length_map]; exact hn) hl.1 (by rw [← List.map_reverse, List.map_append]; rfl) (lv_room (by rw [cat_sum G hst]; exact hlen)) hdg ⟨by omega, by omega⟩
theorem Ev_callI {a : Nat} (hdg : decode M.2.1 pc = .ok (.invokespecial idx, 3)) (hco : aCo Mc n) (hr : Mc.2.2.2 = none) (hi : Mc.1.name = "<init>") (w1 : Cond.methodLink M.1.cls idx Mc.1 ∈ aTs) (w2 : Cond.instanceMethod Mc.1 ∈ aTs) (hn : avs.length = n) (hok : avs.all okv = true) (hml : n + 1 ≤ Mc.2.2.1) (hst : st.all okv = true) (hlen : st.length ≤ 8) (hC : Ev l G d mc1 ms1 Mc 0 (en Mc.2.2.1 (.ref a :: avs)) [] h Q') (kk : ∀ v h', Q' v h' → Ev l G (d + 1) mc ms M (pc + 3) ls (v.toList ++ st) h' Q) : Ev l G (d + 1) (mc1 + mc) (ms1 + ms) M pc ls (avs.reverse ++ .ref a :: st) h Q := by
  intro p e R s m args below meth c H locs cells slots lv C a1 a2 a3 a4 hP hS hl
  have hts := C.2.2.2.2.2.1
  have hM := ev_met (avs := .ref a :: avs) hco.2.2.2.2.2.1 (by simp only [List.all_cons, hok]; rfl) (by simp; omega) hC
  refine call_fin (a := (Value.ref (ad G a) :: avs.map (tv G)).toArray) (mc1 := mc1) (ms1 := ms1) C a1 a2 (by omega) (by omega) hS hl ?_ kk
  exact va_runI (Ts := aTs) (bytes := Mc.2.1) (maxL := Mc.2.2.1) (b := ad G a) (As := avs.map (tv G)) (rest := st.map (tv G)) ⟨C.1, C.2.1, C.2.2.1, C.2.2.2.2.1, hts⟩ hM ⟨callB_of n hts (aWs_good Mc hco) (by unfold aWs; rw [hr]) rfl rfl (hts _ hco.2.1) (hts _ w1) ⟨hco.2.2.1, hco.2.2.2.1, hco.2.2.2.2.1⟩ ⟨a1, by have := hco.2.2.2.2.2.2; show 8 + (Mc.2.2.1 + 11) + 40 * d ≤ R.locals; omega⟩, hi, hts _ w2⟩ ⟨aPc_blind, aPc_pre (avs := .ref a :: avs) C hP hS⟩ rfl (by rw [List.length_map]; exact hn) hl.1 (by rw [← List.map_reverse, List.map_append]; rfl) (lv_room (by rw [cat_sum G hst]; exact hlen)) hdg ⟨by omega, by omega⟩
theorem Ev_callIN {a : Nat} {host : String} (hdg : decode M.2.1 pc = .ok (.invokespecial idx, 3)) (hco : aCo Mc n) (hr : Mc.2.2.2 = none) (hi : Mc.1.name = "<init>") (w1 : Cond.methodLinkNest M.1.cls idx Mc.1 host ∈ lw_tbl) (w2 : Cond.instanceMethod Mc.1 ∈ aTs) (hn : avs.length = n) (hok : avs.all okv = true) (hml : n + 1 ≤ Mc.2.2.1) (hst : st.all okv = true) (hlen : st.length ≤ 8) (hC : Ev l G d mc1 ms1 Mc 0 (en Mc.2.2.1 (.ref a :: avs)) [] h Q') (kk : ∀ v h', Q' v h' → Ev l G (d + 1) mc ms M (pc + 3) ls (v.toList ++ st) h' Q) : Ev l G (d + 1) (mc1 + mc) (ms1 + ms) M pc ls (avs.reverse ++ .ref a :: st) h Q := by
  intro p e R s m args below meth c H locs cells slots lv C a1 a2 a3 a4 hP hS hl
  have hts := C.2.2.2.2.2.1
  have hM := ev_met (avs := .ref a :: avs) hco.2.2.2.2.2.1 (by simp only [List.all_cons, hok]; rfl) (by simp; omega) hC
  refine call_fin (a := (Value.ref (ad G a) :: avs.map (tv G)).toArray) (mc1 := mc1) (ms1 := ms1) C a1 a2 (by omega) (by omega) hS hl ?_ kk
  exact va_runIN (Ts := aTs) (bytes := Mc.2.1) (maxL := Mc.2.2.1) (b := ad G a) (As := avs.map (tv G)) (rest := st.map (tv G)) ⟨C.1, C.2.1, C.2.2.1, C.2.2.2.2.1, hts⟩ hM ⟨va_cnB n hts (aWs_good Mc hco) (by unfold aWs; rw [hr]) rfl rfl (C.2.2.2.2.2.2.2.2.2.2.2.2.2.2.1 _ w1 rfl) (hts _ hco.2.1) ⟨hco.2.2.1, hco.2.2.2.1, hco.2.2.2.2.1⟩ ⟨a1, by have := hco.2.2.2.2.2.2; show 8 + (Mc.2.2.1 + 11) + 40 * d ≤ R.locals; omega⟩, hi, hts _ w2⟩ ⟨aPc_blind, aPc_pre (avs := .ref a :: avs) C hP hS⟩ rfl (by rw [List.length_map]; exact hn) hl.1 (by rw [← List.map_reverse, List.map_append]; rfl) (lv_room (by rw [cat_sum G hst]; exact hlen)) hdg ⟨by omega, by omega⟩
end EV
end
section
def R_law : String := "MadeMendedLaw"
def lw_P (b : Addr) (xs : List Int32) (args : Array Value) (s : State) : Prop := args = #[.ref b] ∧ s.IntsAt b xs ∧ xs.length ≤ 3072 ∧ (Jvm.Cond.and given_1 narrow_1).before args s = true
def lw_Q (_ : Array Value) (s : State) (o : Outcome) (t : State) : Prop := o = .returned (some (.int 1)) ∧ Framed s o t [] 600000 7302250
def lw_Z (below : List Frame) (a : Array Value) (s : State) : State → Prop := fun t => ∃ o, t.status = .running ∧ Ended t below o ∧ lw_Q a s o t
/-- the law's own end, with 1 on the stack, nothing written that was there before, its room as the claim has it -/
theorem lw_ret {p : Program} {l : Launch} {e : Env} {s : State} {m : MethodId} {below : List Frame} {meth : Method} {c : Code} {b : Nat} (hx : p.tables.exec = Jvm.exec) (hb : c.code = code) (hr : meth.sig.returnType = ret) (hlocks : meth.locks = false) {pc : Nat} {H : Heap} {ls : Array Slot} (hdg : decode code pc = .ok (.ireturn, 1)) : W p l e room_1 s m #[Value.ref b] below meth c H [] 600000 7302250 (lw_Z below #[Value.ref b] s) (F0 m pc ls [.int 1]) := by
  intro T hT X
  obtain ⟨fs, hret, hrun, hended, hW, hframe⟩ := X.leave (v := some (.int 1)) (hlocks := hlocks) (fun h => by rw [hr] at h; cases h)
  have hmeth' : T.vm.method? m = some meth := X.method'
  refine ⟨T.setFrames fs, ?_, .returned (some (.int 1)), hrun, hended, rfl, ⟨_, rfl⟩, hW, hframe⟩
  jvm_step X.here [X.here.top, hx, hb, hdg, hmeth', hr, ret, narrow_b1]
  (try refine ⟨rfl, ?_⟩); (try refine ⟨rfl, ?_⟩)
  first | (intro acts; rw [hret _ acts rfl rfl rfl]) | rw [hret _ _ rfl rfl rfl]
  exact Steps.refl _
/-- what holds at the law's entry: the machine, the code, the tables' words (any of lw_tbl by 'hts w (by decide +kernel)'), the script of L ints xs at the cell b, what the Statement gives of the start (any of its parts by flat_of_before) -/
def lw_At (p : Program) (s : State) (m : MethodId) (meth : Method) (c : Code) (b L : Nat) (xs : Nat → Int32) : Prop :=
  p.tables.exec = Jvm.exec ∧ c.code = code ∧ meth.sig.returnType = ret ∧ c.maxLocals = 4 ∧ s.vm.findClass R_law = some m.cls ∧ (∀ w ∈ lw_tbl, w.before #[Value.ref b] s = true) ∧ va_X b L xs s s.heap ∧ b < s.heap.size ∧ meth.locks = false ∧ (Jvm.Cond.and given_1 narrow_1).before #[Value.ref b] s = true
end
section
abbrev M_law : aM := (yL_law, cL_law, 4, some .boolean)
def h00 : aH := (0, fun _ => 99, fun _ _ => 0, fun _ _ => none, fun _ => 0, fun _ _ => 0, fun _ _ => none)
theorem inst_all : vwCl.all (fun r => decide (Cond.instantiable r.1 r.2.2 ∈ lw_tbl)) = true := by decide +kernel
theorem aTs_tbl {w : Cond} (h : w ∈ aTs) : w ∈ lw_tbl := (List.mem_filter.mp h).1
set_option maxHeartbeats 4000000 in
theorem start_of {p : Program} {e : Env} {s : State} {m : MethodId} {below : List Frame} {meth : Method} {c : Code} (l : Launch) {b L : Nat} {xs : Nat → Int32} (C0 : lw_At p s m meth c b L xs) (hEv : ∀ G : aG, gL G = L → gX G = xs → Ev l G 100 600000 7302250 M_law 0 (en 4 [.ref 0]) [] h00 (fun v _ => v = some (.int 1))) : W p l e room_1 s m #[Value.ref b] below meth c s.heap [] 0 0 (lw_Z below #[Value.ref b] s) (entryFrame m ([Value.ref b] : List Value).toArray 4) := by
  obtain ⟨hx, hb, hr, hml, hown, hts, hX, hbl, hlocks, hgv⟩ := C0
  have hg := flat_of_before _ hgv
  have kn : ∀ ci : Nat, ∃ (q : ClassId × (Nat → Nat)), ∀ r : vw_C, vwCl[ci]? = some r → u_Kn s r.1 r.2.1 r.2.2 q.1 q.2 := by
    intro ci
    cases hr : vwCl[ci]? with
    | none => exact ⟨(0, fun _ => 0), fun r h => by cases h⟩
    | some r =>
      have h1 : Cond.instantiable r.1 r.2.2 ∈ lw_tbl := of_decide_eq_true (List.all_eq_true.mp inst_all r (List.mem_of_getElem? hr))
      obtain ⟨c0, i0, h2⟩ := u_known (C := r.1) (T := r.2.1) (N := r.2.2) (n := r.2.2) hts (fun w hw => aTs_tbl (us_in hr w hw)) (hts _ h1)
      exact ⟨(c0, i0), fun r' h => by cases h; exact h2⟩
  obtain ⟨cI, kI, mI, i1, i2, i3⟩ := Cond.arrayClass_spec (hts (.arrayClass .int) (by decide +kernel))
  obtain ⟨cZ, kZ, mZ, z1, z2, z3⟩ := Cond.arrayClass_spec (hts (.arrayClass .boolean) (by decide +kernel))
  have ao : ∀ C : String, Cond.arrayOver (.object C) ∈ lw_tbl → ∃ cA : ClassId, ArrOfT s cA (.object C) ∧ va_RA s cA (.object C) := by
    intro C hC
    obtain ⟨comp, c1, k, h1, h2, h3, h4, h5⟩ := Cond.arrayOver_spec (hts _ hC)
    exact ⟨c1, fun N z => ⟨(fun k h => by cases h), k, h3, comp, h4⟩, k, comp, h3, h4, h1, h5⟩
  obtain ⟨cO, o1⟩ := ao "java/lang/Object" (by decide +kernel)
  obtain ⟨cP, p1⟩ := ao "MadeMended$Piece" (by decide +kernel)
  obtain ⟨cR, r1⟩ := ao "MadeMended$Rule" (by decide +kernel)
  obtain ⟨cT, t1⟩ := ao "MadeMended$Thing" (by decide +kernel)
  have hnA : ∀ a : Nat, a < s.heap.size → ¬ (fun q => s.heap.size ≤ q) a := fun a ha => Nat.not_le.mpr ha
  have hlen0 := va_eqt (hg (.eq (.length (.static "java/util/ArrayList" "DEFAULTCAPACITY_EMPTY_ELEMENTDATA" "[Ljava/lang/Object;")) (.int 0)) (by decide +kernel))
  obtain ⟨ea, he1, he2⟩ := va_Tof (N := 0) (f := fun _ => .null) (A := fun q => s.heap.size ≤ q) (by decide) (hg (.arrayOf (.static "java/util/ArrayList" "DEFAULTCAPACITY_EMPTY_ELEMENTDATA" "[Ljava/lang/Object;") (.object "java/lang/Object")) (by decide +kernel)) hlen0 (fun j hj => absurd hj (by omega)) hnA
  have he3 := va_Zref (A := fun q => s.heap.size ≤ q) (hts (.laysStatic "java/util/ArrayList" "DEFAULTCAPACITY_EMPTY_ELEMENTDATA" "[Ljava/lang/Object;") (by decide +kernel)) (hts (.initialized "java/util/ArrayList") (by decide +kernel)) he1 hnA
  obtain ⟨mi, hmi⟩ := va_Mi.of (hg (.isRef (.mirror "[Ljava/lang/Object;")) (by decide +kernel))
  have hea : ea < s.heap.size := by
    obtain ⟨cell, h1, -⟩ := he2
    exact (Array.getElem?_eq_some_iff.mp h1).1
  let G : aG := ((fun ci => (Classical.choose (kn ci)).1, fun ci => (Classical.choose (kn ci)).2), (fun kd => match kd with | 13 => cI | 14 => cZ | 15 => cO | 16 => cP | 17 => cR | _ => cT), s.heap.size, b, ea, mi, L, xs)
  have hK : va_K (gD G) vwCl (aTy G) s := by
    refine ⟨fun ci q hq => Classical.choose_spec (kn ci) q hq, fun k q hk => ?_⟩
    match k, hk with
    | 0, hk => cases hk; exact ⟨fun N z => ⟨(fun k h => by cases h), kI, i2, mI, i3⟩, i1⟩
    | 1, hk => cases hk; exact ⟨fun N z => ⟨(fun k h => by cases h), kZ, z2, mZ, z3⟩, z1⟩
    | 2, hk => cases hk; exact o1
    | 3, hk => cases hk; exact p1
    | 4, hk => cases hk; exact r1
    | 5, hk => cases hk; exact t1
    | k + 6, hk => simp [aTy] at hk
  have hW : aWd G s s.heap := ⟨hK, hX, hbl, he3, he2, hmi, fun w hw hk => by
    cases w with
    | castable => exact va_Nw.of rfl (hts _ hw)
    | methodLinkNest => exact va_Nw.of rfl (hts _ hw)
    | declares => exact va_Nw.of rfl (hts _ hw)
    | arrayOver t => cases t <;> first | (exact va_AO.of (hts _ hw)) | (simp [aWk] at hk)
    | _ => simp [aWk] at hk, Nat.le_refl _, hea⟩
  have hRp : aRp G h00 s.heap := ⟨rfl, fun k q hk => by simp [wl, h00, hN] at hk, fun a ha => absurd rfl ha⟩
  have hl := aLv_entry G (avs := [.ref 0]) (n := 4) rfl (by decide)
  have K := hEv G rfl rfl p e room_1 s m #[Value.ref b] below meth c s.heap [] 0 0 _ ⟨hx, hb, hml, hr, hown, fun w hw => hts w (aTs_tbl hw), hlocks, fun h => absurd h (by decide), hW⟩ (by decide) (by decide) (by decide) (by decide) hRp va_S.rf hl
  rw [lg_entry_eq]
  intro T hT X
  obtain ⟨t, q1, o, q2, q3, ⟨v, h', q4, q5, -⟩, Lc, q6, q7⟩ := K T hT X
  refine ⟨t, q1, o, q2, q3, ?_, q6.1, q6.2.1, ?_⟩
  · rw [q4, q5]; rfl
  · exact q6.2.2.weaken (fun y hy hlt => absurd hlt (Nat.not_lt.mpr (q7 y hy))) (Nat.le_refl _) (Nat.le_refl _)
end
section
theorem dX0_init_0 : decode cX0_init 0 = .ok (.aload_n 0, 1) := by decide +kernel
theorem dX0_init_1 : decode cX0_init 1 = .ok (.invokespecial 1, 3) := by decide +kernel
theorem dX0_init_4 : decode cX0_init 4 = .ok (.aload_n 0, 1) := by decide +kernel
theorem dX0_init_5 : decode cX0_init 5 = .ok (.aload_n 1, 1) := by decide +kernel
theorem dX0_init_6 : decode cX0_init 6 = .ok (.putfield 7, 3) := by decide +kernel
theorem dX0_init_9 : decode cX0_init 9 = .ok (.aload_n 0, 1) := by decide +kernel
theorem dX0_init_10 : decode cX0_init 10 = .ok (.aload_n 2, 1) := by decide +kernel
theorem dX0_init_11 : decode cX0_init 11 = .ok (.putfield 13, 3) := by decide +kernel
theorem dX0_init_14 : decode cX0_init 14 = .ok (.return_, 1) := by decide +kernel
theorem dX1_init_0 : decode cX1_init 0 = .ok (.aload_n 0, 1) := by decide +kernel
theorem dX1_init_1 : decode cX1_init 1 = .ok (.invokespecial 1, 3) := by decide +kernel
theorem dX1_init_4 : decode cX1_init 4 = .ok (.aload_n 0, 1) := by decide +kernel
theorem dX1_init_5 : decode cX1_init 5 = .ok (.aload_n 1, 1) := by decide +kernel
theorem dX1_init_6 : decode cX1_init 6 = .ok (.putfield 7, 3) := by decide +kernel
theorem dX1_init_9 : decode cX1_init 9 = .ok (.aload_n 0, 1) := by decide +kernel
theorem dX1_init_10 : decode cX1_init 10 = .ok (.iload_n 2, 1) := by decide +kernel
theorem dX1_init_11 : decode cX1_init 11 = .ok (.putfield 13, 3) := by decide +kernel
theorem dX1_init_14 : decode cX1_init 14 = .ok (.aload_n 0, 1) := by decide +kernel
theorem dX1_init_15 : decode cX1_init 15 = .ok (.iload_n 3, 1) := by decide +kernel
theorem dX1_init_16 : decode cX1_init 16 = .ok (.putfield 17, 3) := by decide +kernel
theorem dX1_init_19 : decode cX1_init 19 = .ok (.return_, 1) := by decide +kernel
theorem dX2_init_0 : decode cX2_init 0 = .ok (.aload_n 0, 1) := by decide +kernel
theorem dX2_init_1 : decode cX2_init 1 = .ok (.invokespecial 3, 3) := by decide +kernel
theorem dX2_init_4 : decode cX2_init 4 = .ok (.aload_n 0, 1) := by decide +kernel
theorem dX2_init_5 : decode cX2_init 5 = .ok (.new 9, 3) := by decide +kernel
theorem dX2_init_8 : decode cX2_init 8 = .ok (.dup, 1) := by decide +kernel
theorem dX2_init_9 : decode cX2_init 9 = .ok (.invokespecial 11, 3) := by decide +kernel
theorem dX2_init_12 : decode cX2_init 12 = .ok (.putfield 12, 3) := by decide +kernel
theorem dX2_init_15 : decode cX2_init 15 = .ok (.return_, 1) := by decide +kernel
theorem dX2_at_0 : decode cX2_at 0 = .ok (.iload_n 1, 1) := by decide +kernel
theorem dX2_at_1 : decode cX2_at 1 = .ok (.ifCond .lt 28, 3) := by decide +kernel
theorem dX2_at_4 : decode cX2_at 4 = .ok (.iload_n 1, 1) := by decide +kernel
theorem dX2_at_5 : decode cX2_at 5 = .ok (.aload_n 0, 1) := by decide +kernel
theorem dX2_at_6 : decode cX2_at 6 = .ok (.getfield 12, 3) := by decide +kernel
theorem dX2_at_9 : decode cX2_at 9 = .ok (.invokevirtual 18, 3) := by decide +kernel
theorem dX2_at_12 : decode cX2_at 12 = .ok (.if_icmp .ge 17, 3) := by decide +kernel
theorem dX2_at_15 : decode cX2_at 15 = .ok (.aload_n 0, 1) := by decide +kernel
theorem dX2_at_16 : decode cX2_at 16 = .ok (.getfield 12, 3) := by decide +kernel
theorem dX2_at_19 : decode cX2_at 19 = .ok (.iload_n 1, 1) := by decide +kernel
theorem dX2_at_20 : decode cX2_at 20 = .ok (.invokevirtual 22, 3) := by decide +kernel
theorem dX2_at_23 : decode cX2_at 23 = .ok (.checkcast 26, 3) := by decide +kernel
theorem dX2_at_26 : decode cX2_at 26 = .ok (.goto 4, 3) := by decide +kernel
theorem dX2_at_29 : decode cX2_at 29 = .ok (.aconst_null, 1) := by decide +kernel
theorem dX2_at_30 : decode cX2_at 30 = .ok (.areturn, 1) := by decide +kernel
theorem dX2_keepLost_0 : decode cX2_keepLost 0 = .ok (.iconst 0, 1) := by decide +kernel
theorem dX2_keepLost_1 : decode cX2_keepLost 1 = .ok (.istore_n 2, 1) := by decide +kernel
theorem dX2_keepLost_2 : decode cX2_keepLost 2 = .ok (.iload_n 2, 1) := by decide +kernel
theorem dX2_keepLost_3 : decode cX2_keepLost 3 = .ok (.aload_n 1, 1) := by decide +kernel
theorem dX2_keepLost_4 : decode cX2_keepLost 4 = .ok (.getfield 28, 3) := by decide +kernel
theorem dX2_keepLost_7 : decode cX2_keepLost 7 = .ok (.if_icmp .ge 59, 3) := by decide +kernel
theorem dX2_keepLost_10 : decode cX2_keepLost 10 = .ok (.aload_n 1, 1) := by decide +kernel
theorem dX2_keepLost_11 : decode cX2_keepLost 11 = .ok (.iload_n 2, 1) := by decide +kernel
theorem dX2_keepLost_12 : decode cX2_keepLost 12 = .ok (.invokevirtual 34, 3) := by decide +kernel
theorem dX2_keepLost_15 : decode cX2_keepLost 15 = .ok (.astore_n 3, 1) := by decide +kernel
theorem dX2_keepLost_16 : decode cX2_keepLost 16 = .ok (.aload_n 3, 1) := by decide +kernel
theorem dX2_keepLost_17 : decode cX2_keepLost 17 = .ok (.ifnull 43, 3) := by decide +kernel
theorem dX2_keepLost_20 : decode cX2_keepLost 20 = .ok (.aload_n 3, 1) := by decide +kernel
theorem dX2_keepLost_21 : decode cX2_keepLost 21 = .ok (.getfield 38, 3) := by decide +kernel
theorem dX2_keepLost_24 : decode cX2_keepLost 24 = .ok (.ifCond .eq 36, 3) := by decide +kernel
theorem dX2_keepLost_27 : decode cX2_keepLost 27 = .ok (.aload_n 3, 1) := by decide +kernel
theorem dX2_keepLost_28 : decode cX2_keepLost 28 = .ok (.getfield 44, 3) := by decide +kernel
theorem dX2_keepLost_31 : decode cX2_keepLost 31 = .ok (.ifnull 29, 3) := by decide +kernel
theorem dX2_keepLost_34 : decode cX2_keepLost 34 = .ok (.aload_n 0, 1) := by decide +kernel
theorem dX2_keepLost_35 : decode cX2_keepLost 35 = .ok (.new 26, 3) := by decide +kernel
theorem dX2_keepLost_38 : decode cX2_keepLost 38 = .ok (.dup, 1) := by decide +kernel
theorem dX2_keepLost_39 : decode cX2_keepLost 39 = .ok (.aload_n 3, 1) := by decide +kernel
theorem dX2_keepLost_40 : decode cX2_keepLost 40 = .ok (.getfield 44, 3) := by decide +kernel
theorem dX2_keepLost_43 : decode cX2_keepLost 43 = .ok (.getfield 48, 3) := by decide +kernel
theorem dX2_keepLost_46 : decode cX2_keepLost 46 = .ok (.aload_n 3, 1) := by decide +kernel
theorem dX2_keepLost_47 : decode cX2_keepLost 47 = .ok (.getfield 54, 3) := by decide +kernel
theorem dX2_keepLost_50 : decode cX2_keepLost 50 = .ok (.aload_n 3, 1) := by decide +kernel
theorem dX2_keepLost_51 : decode cX2_keepLost 51 = .ok (.getfield 57, 3) := by decide +kernel
theorem dX2_keepLost_54 : decode cX2_keepLost 54 = .ok (.invokespecial 60, 3) := by decide +kernel
theorem dX2_keepLost_57 : decode cX2_keepLost 57 = .ok (.invokevirtual 63, 3) := by decide +kernel
theorem dX2_keepLost_60 : decode cX2_keepLost 60 = .ok (.iinc 2 1, 3) := by decide +kernel
theorem dX2_keepLost_63 : decode cX2_keepLost 63 = .ok (.goto (-61), 3) := by decide +kernel
theorem dX2_keepLost_66 : decode cX2_keepLost 66 = .ok (.return_, 1) := by decide +kernel
theorem dX2_keep_0 : decode cX2_keep 0 = .ok (.aload_n 0, 1) := by decide +kernel
theorem dX2_keep_1 : decode cX2_keep 1 = .ok (.getfield 12, 3) := by decide +kernel
theorem dX2_keep_4 : decode cX2_keep 4 = .ok (.invokevirtual 18, 3) := by decide +kernel
theorem dX2_keep_7 : decode cX2_keep 7 = .ok (.bipush 30, 2) := by decide +kernel
theorem dX2_keep_9 : decode cX2_keep 9 = .ok (.if_icmp .lt 22, 3) := by decide +kernel
theorem dX2_keep_12 : decode cX2_keep 12 = .ok (.aload_n 0, 1) := by decide +kernel
theorem dX2_keep_13 : decode cX2_keep 13 = .ok (.getfield 12, 3) := by decide +kernel
theorem dX2_keep_16 : decode cX2_keep 16 = .ok (.iconst 0, 1) := by decide +kernel
theorem dX2_keep_17 : decode cX2_keep 17 = .ok (.invokevirtual 67, 3) := by decide +kernel
theorem dX2_keep_20 : decode cX2_keep 20 = .ok (.pop, 1) := by decide +kernel
theorem dX2_keep_21 : decode cX2_keep 21 = .ok (.aload_n 0, 1) := by decide +kernel
theorem dX2_keep_22 : decode cX2_keep 22 = .ok (.dup, 1) := by decide +kernel
theorem dX2_keep_23 : decode cX2_keep 23 = .ok (.getfield 70, 3) := by decide +kernel
theorem dX2_keep_26 : decode cX2_keep 26 = .ok (.iconst 1, 1) := by decide +kernel
theorem dX2_keep_27 : decode cX2_keep 27 = .ok (.iadd, 1) := by decide +kernel
theorem dX2_keep_28 : decode cX2_keep 28 = .ok (.putfield 70, 3) := by decide +kernel
theorem dX2_keep_31 : decode cX2_keep 31 = .ok (.aload_n 0, 1) := by decide +kernel
theorem dX2_keep_32 : decode cX2_keep 32 = .ok (.getfield 12, 3) := by decide +kernel
theorem dX2_keep_35 : decode cX2_keep 35 = .ok (.aload_n 1, 1) := by decide +kernel
theorem dX2_keep_36 : decode cX2_keep 36 = .ok (.invokevirtual 73, 3) := by decide +kernel
theorem dX2_keep_39 : decode cX2_keep 39 = .ok (.pop, 1) := by decide +kernel
theorem dX2_keep_40 : decode cX2_keep 40 = .ok (.return_, 1) := by decide +kernel
theorem dX2_remove_0 : decode cX2_remove 0 = .ok (.iload_n 1, 1) := by decide +kernel
theorem dX2_remove_1 : decode cX2_remove 1 = .ok (.ifCond .lt 14, 3) := by decide +kernel
theorem dX2_remove_4 : decode cX2_remove 4 = .ok (.iload_n 1, 1) := by decide +kernel
theorem dX2_remove_5 : decode cX2_remove 5 = .ok (.aload_n 0, 1) := by decide +kernel
theorem dX2_remove_6 : decode cX2_remove 6 = .ok (.getfield 12, 3) := by decide +kernel
theorem dX2_remove_9 : decode cX2_remove 9 = .ok (.invokevirtual 18, 3) := by decide +kernel
theorem dX2_remove_12 : decode cX2_remove 12 = .ok (.if_icmp .lt 5, 3) := by decide +kernel
theorem dX2_remove_15 : decode cX2_remove 15 = .ok (.iconst 0, 1) := by decide +kernel
theorem dX2_remove_16 : decode cX2_remove 16 = .ok (.ireturn, 1) := by decide +kernel
theorem dX2_remove_17 : decode cX2_remove 17 = .ok (.aload_n 0, 1) := by decide +kernel
theorem dX2_remove_18 : decode cX2_remove 18 = .ok (.getfield 12, 3) := by decide +kernel
theorem dX2_remove_21 : decode cX2_remove 21 = .ok (.iload_n 1, 1) := by decide +kernel
theorem dX2_remove_22 : decode cX2_remove 22 = .ok (.invokevirtual 67, 3) := by decide +kernel
theorem dX2_remove_25 : decode cX2_remove 25 = .ok (.pop, 1) := by decide +kernel
theorem dX2_remove_26 : decode cX2_remove 26 = .ok (.iconst 1, 1) := by decide +kernel
theorem dX2_remove_27 : decode cX2_remove 27 = .ok (.ireturn, 1) := by decide +kernel
theorem dX3_init_0 : decode cX3_init 0 = .ok (.aload_n 0, 1) := by decide +kernel
theorem dX3_init_1 : decode cX3_init 1 = .ok (.invokespecial 3, 3) := by decide +kernel
theorem dX3_init_4 : decode cX3_init 4 = .ok (.aload_n 0, 1) := by decide +kernel
theorem dX3_init_5 : decode cX3_init 5 = .ok (.bipush 6, 2) := by decide +kernel
theorem dX3_init_7 : decode cX3_init 7 = .ok (.newarray .int, 2) := by decide +kernel
theorem dX3_init_9 : decode cX3_init 9 = .ok (.putfield 9, 3) := by decide +kernel
theorem dX3_init_12 : decode cX3_init 12 = .ok (.aload_n 0, 1) := by decide +kernel
theorem dX3_init_13 : decode cX3_init 13 = .ok (.aload_n 1, 1) := by decide +kernel
theorem dX3_init_14 : decode cX3_init 14 = .ok (.putfield 15, 3) := by decide +kernel
theorem dX3_init_17 : decode cX3_init 17 = .ok (.aload_n 0, 1) := by decide +kernel
theorem dX3_init_18 : decode cX3_init 18 = .ok (.aload_n 2, 1) := by decide +kernel
theorem dX3_init_19 : decode cX3_init 19 = .ok (.putfield 19, 3) := by decide +kernel
theorem dX3_init_22 : decode cX3_init 22 = .ok (.return_, 1) := by decide +kernel
theorem dX3_fill_0 : decode cX3_fill 0 = .ok (.aload_n 0, 1) := by decide +kernel
theorem dX3_fill_1 : decode cX3_fill 1 = .ok (.aload_n 1, 1) := by decide +kernel
theorem dX3_fill_2 : decode cX3_fill 2 = .ok (.putfield 19, 3) := by decide +kernel
theorem dX3_fill_5 : decode cX3_fill 5 = .ok (.aload_n 0, 1) := by decide +kernel
theorem dX3_fill_6 : decode cX3_fill 6 = .ok (.iconst 0, 1) := by decide +kernel
theorem dX3_fill_7 : decode cX3_fill 7 = .ok (.putfield 23, 3) := by decide +kernel
theorem dX3_fill_10 : decode cX3_fill 10 = .ok (.aload_n 1, 1) := by decide +kernel
theorem dX3_fill_11 : decode cX3_fill 11 = .ok (.invokevirtual 27, 3) := by decide +kernel
theorem dX3_fill_14 : decode cX3_fill 14 = .ok (.iconst 0, 1) := by decide +kernel
theorem dX3_fill_15 : decode cX3_fill 15 = .ok (.istore_n 3, 1) := by decide +kernel
theorem dX3_fill_16 : decode cX3_fill 16 = .ok (.iload_n 3, 1) := by decide +kernel
theorem dX3_fill_17 : decode cX3_fill 17 = .ok (.aload_n 2, 1) := by decide +kernel
theorem dX3_fill_18 : decode cX3_fill 18 = .ok (.getfield 32, 3) := by decide +kernel
theorem dX3_fill_21 : decode cX3_fill 21 = .ok (.invokevirtual 38, 3) := by decide +kernel
theorem dX3_fill_24 : decode cX3_fill 24 = .ok (.if_icmp .ge 33, 3) := by decide +kernel
theorem dX3_fill_27 : decode cX3_fill 27 = .ok (.aload_n 1, 1) := by decide +kernel
theorem dX3_fill_28 : decode cX3_fill 28 = .ok (.getfield 44, 3) := by decide +kernel
theorem dX3_fill_31 : decode cX3_fill 31 = .ok (.ifCond .ne 26, 3) := by decide +kernel
theorem dX3_fill_34 : decode cX3_fill 34 = .ok (.aload_n 0, 1) := by decide +kernel
theorem dX3_fill_35 : decode cX3_fill 35 = .ok (.aload_n 2, 1) := by decide +kernel
theorem dX3_fill_36 : decode cX3_fill 36 = .ok (.getfield 32, 3) := by decide +kernel
theorem dX3_fill_39 : decode cX3_fill 39 = .ok (.iload_n 3, 1) := by decide +kernel
theorem dX3_fill_40 : decode cX3_fill 40 = .ok (.invokevirtual 48, 3) := by decide +kernel
theorem dX3_fill_43 : decode cX3_fill 43 = .ok (.checkcast 33, 3) := by decide +kernel
theorem dX3_fill_46 : decode cX3_fill 46 = .ok (.iconst 0, 1) := by decide +kernel
theorem dX3_fill_47 : decode cX3_fill 47 = .ok (.iconst 1, 1) := by decide +kernel
theorem dX3_fill_48 : decode cX3_fill 48 = .ok (.invokevirtual 52, 3) := by decide +kernel
theorem dX3_fill_51 : decode cX3_fill 51 = .ok (.iinc 3 1, 3) := by decide +kernel
theorem dX3_fill_54 : decode cX3_fill 54 = .ok (.goto (-38), 3) := by decide +kernel
theorem dX3_fill_57 : decode cX3_fill 57 = .ok (.return_, 1) := by decide +kernel
theorem dX3_makeUse_0 : decode cX3_makeUse 0 = .ok (.aload_n 0, 1) := by decide +kernel
theorem dX3_makeUse_1 : decode cX3_makeUse 1 = .ok (.getfield 23, 3) := by decide +kernel
theorem dX3_makeUse_4 : decode cX3_makeUse 4 = .ok (.sipush 2000, 3) := by decide +kernel
theorem dX3_makeUse_7 : decode cX3_makeUse 7 = .ok (.if_icmp .ge 19, 3) := by decide +kernel
theorem dX3_makeUse_10 : decode cX3_makeUse 10 = .ok (.iload_n 3, 1) := by decide +kernel
theorem dX3_makeUse_11 : decode cX3_makeUse 11 = .ok (.bipush 6, 2) := by decide +kernel
theorem dX3_makeUse_13 : decode cX3_makeUse 13 = .ok (.if_icmp .gt 13, 3) := by decide +kernel
theorem dX3_makeUse_16 : decode cX3_makeUse 16 = .ok (.aload_n 1, 1) := by decide +kernel
theorem dX3_makeUse_17 : decode cX3_makeUse 17 = .ok (.getfield 56, 3) := by decide +kernel
theorem dX3_makeUse_20 : decode cX3_makeUse 20 = .ok (.invokestatic 59, 3) := by decide +kernel
theorem dX3_makeUse_23 : decode cX3_makeUse 23 = .ok (.ifCond .ne 12, 3) := by decide +kernel
theorem dX3_makeUse_26 : decode cX3_makeUse 26 = .ok (.aload_n 0, 1) := by decide +kernel
theorem dX3_makeUse_27 : decode cX3_makeUse 27 = .ok (.getfield 19, 3) := by decide +kernel
theorem dX3_makeUse_30 : decode cX3_makeUse 30 = .ok (.iconst 1, 1) := by decide +kernel
theorem dX3_makeUse_31 : decode cX3_makeUse 31 = .ok (.putfield 44, 3) := by decide +kernel
theorem dX3_makeUse_34 : decode cX3_makeUse 34 = .ok (.return_, 1) := by decide +kernel
theorem dX3_makeUse_35 : decode cX3_makeUse 35 = .ok (.aload_n 0, 1) := by decide +kernel
theorem dX3_makeUse_36 : decode cX3_makeUse 36 = .ok (.dup, 1) := by decide +kernel
theorem dX3_makeUse_37 : decode cX3_makeUse 37 = .ok (.getfield 23, 3) := by decide +kernel
theorem dX3_makeUse_40 : decode cX3_makeUse 40 = .ok (.iconst 1, 1) := by decide +kernel
theorem dX3_makeUse_41 : decode cX3_makeUse 41 = .ok (.iadd, 1) := by decide +kernel
theorem dX3_makeUse_42 : decode cX3_makeUse 42 = .ok (.putfield 23, 3) := by decide +kernel
theorem dX3_makeUse_45 : decode cX3_makeUse 45 = .ok (.aload_n 0, 1) := by decide +kernel
theorem dX3_makeUse_46 : decode cX3_makeUse 46 = .ok (.getfield 15, 3) := by decide +kernel
theorem dX3_makeUse_49 : decode cX3_makeUse 49 = .ok (.aload_n 1, 1) := by decide +kernel
theorem dX3_makeUse_50 : decode cX3_makeUse 50 = .ok (.getfield 56, 3) := by decide +kernel
theorem dX3_makeUse_53 : decode cX3_makeUse 53 = .ok (.aaload, 1) := by decide +kernel
theorem dX3_makeUse_54 : decode cX3_makeUse 54 = .ok (.astore 4, 2) := by decide +kernel
theorem dX3_makeUse_56 : decode cX3_makeUse 56 = .ok (.iconst 0, 1) := by decide +kernel
theorem dX3_makeUse_57 : decode cX3_makeUse 57 = .ok (.istore 5, 2) := by decide +kernel
theorem dX3_makeUse_59 : decode cX3_makeUse 59 = .ok (.iconst 0, 1) := by decide +kernel
theorem dX3_makeUse_60 : decode cX3_makeUse 60 = .ok (.istore 6, 2) := by decide +kernel
theorem dX3_makeUse_62 : decode cX3_makeUse 62 = .ok (.iload 6, 2) := by decide +kernel
theorem dX3_makeUse_64 : decode cX3_makeUse 64 = .ok (.aload 4, 2) := by decide +kernel
theorem dX3_makeUse_66 : decode cX3_makeUse 66 = .ok (.getfield 63, 3) := by decide +kernel
theorem dX3_makeUse_69 : decode cX3_makeUse 69 = .ok (.if_icmp .ge 127, 3) := by decide +kernel
theorem dX3_makeUse_72 : decode cX3_makeUse 72 = .ok (.aload_n 0, 1) := by decide +kernel
theorem dX3_makeUse_73 : decode cX3_makeUse 73 = .ok (.getfield 19, 3) := by decide +kernel
theorem dX3_makeUse_76 : decode cX3_makeUse 76 = .ok (.getfield 44, 3) := by decide +kernel
theorem dX3_makeUse_79 : decode cX3_makeUse 79 = .ok (.ifCond .ne 117, 3) := by decide +kernel
theorem dX3_makeUse_82 : decode cX3_makeUse 82 = .ok (.aload 4, 2) := by decide +kernel
theorem dX3_makeUse_84 : decode cX3_makeUse 84 = .ok (.getfield 68, 3) := by decide +kernel
theorem dX3_makeUse_87 : decode cX3_makeUse 87 = .ok (.iload 6, 2) := by decide +kernel
theorem dX3_makeUse_89 : decode cX3_makeUse 89 = .ok (.iaload, 1) := by decide +kernel
theorem dX3_makeUse_90 : decode cX3_makeUse 90 = .ok (.istore 7, 2) := by decide +kernel
theorem dX3_makeUse_92 : decode cX3_makeUse 92 = .ok (.iload 7, 2) := by decide +kernel
theorem dX3_makeUse_94 : decode cX3_makeUse 94 = .ok (.bipush 6, 2) := by decide +kernel
theorem dX3_makeUse_96 : decode cX3_makeUse 96 = .ok (.if_icmp .ne 31, 3) := by decide +kernel
theorem dX3_makeUse_99 : decode cX3_makeUse 99 = .ok (.aload_n 1, 1) := by decide +kernel
theorem dX3_makeUse_100 : decode cX3_makeUse 100 = .ok (.getfield 71, 3) := by decide +kernel
theorem dX3_makeUse_103 : decode cX3_makeUse 103 = .ok (.aload 4, 2) := by decide +kernel
theorem dX3_makeUse_105 : decode cX3_makeUse 105 = .ok (.getfield 74, 3) := by decide +kernel
theorem dX3_makeUse_108 : decode cX3_makeUse 108 = .ok (.iload 6, 2) := by decide +kernel
theorem dX3_makeUse_110 : decode cX3_makeUse 110 = .ok (.iaload, 1) := by decide +kernel
theorem dX3_makeUse_111 : decode cX3_makeUse 111 = .ok (.invokestatic 77, 3) := by decide +kernel
theorem dX3_makeUse_114 : decode cX3_makeUse 114 = .ok (.ifCond .gt 7, 3) := by decide +kernel
theorem dX3_makeUse_117 : decode cX3_makeUse 117 = .ok (.iconst 1, 1) := by decide +kernel
theorem dX3_makeUse_118 : decode cX3_makeUse 118 = .ok (.goto 4, 3) := by decide +kernel
theorem dX3_makeUse_121 : decode cX3_makeUse 121 = .ok (.iconst 0, 1) := by decide +kernel
theorem dX3_makeUse_122 : decode cX3_makeUse 122 = .ok (.istore 5, 2) := by decide +kernel
theorem dX3_makeUse_124 : decode cX3_makeUse 124 = .ok (.goto 66, 3) := by decide +kernel
theorem dX3_makeUse_127 : decode cX3_makeUse 127 = .ok (.iload 7, 2) := by decide +kernel
theorem dX3_makeUse_129 : decode cX3_makeUse 129 = .ok (.bipush 7, 2) := by decide +kernel
theorem dX3_makeUse_131 : decode cX3_makeUse 131 = .ok (.if_icmp .ne 9, 3) := by decide +kernel
theorem dX3_makeUse_134 : decode cX3_makeUse 134 = .ok (.iconst 0, 1) := by decide +kernel
theorem dX3_makeUse_135 : decode cX3_makeUse 135 = .ok (.istore 5, 2) := by decide +kernel
theorem dX3_makeUse_137 : decode cX3_makeUse 137 = .ok (.goto 53, 3) := by decide +kernel
theorem dX3_makeUse_140 : decode cX3_makeUse 140 = .ok (.iload 5, 2) := by decide +kernel
theorem dX3_makeUse_142 : decode cX3_makeUse 142 = .ok (.ifCond .ne 33, 3) := by decide +kernel
theorem dX3_makeUse_145 : decode cX3_makeUse 145 = .ok (.iload 7, 2) := by decide +kernel
theorem dX3_makeUse_147 : decode cX3_makeUse 147 = .ok (.iconst 5, 1) := by decide +kernel
theorem dX3_makeUse_148 : decode cX3_makeUse 148 = .ok (.if_icmp .ne 27, 3) := by decide +kernel
theorem dX3_makeUse_151 : decode cX3_makeUse 151 = .ok (.aload_n 0, 1) := by decide +kernel
theorem dX3_makeUse_152 : decode cX3_makeUse 152 = .ok (.aload_n 1, 1) := by decide +kernel
theorem dX3_makeUse_153 : decode cX3_makeUse 153 = .ok (.aload 4, 2) := by decide +kernel
theorem dX3_makeUse_155 : decode cX3_makeUse 155 = .ok (.getfield 74, 3) := by decide +kernel
theorem dX3_makeUse_158 : decode cX3_makeUse 158 = .ok (.iload 6, 2) := by decide +kernel
theorem dX3_makeUse_160 : decode cX3_makeUse 160 = .ok (.iaload, 1) := by decide +kernel
theorem dX3_makeUse_161 : decode cX3_makeUse 161 = .ok (.iload_n 2, 1) := by decide +kernel
theorem dX3_makeUse_162 : decode cX3_makeUse 162 = .ok (.bipush 32, 2) := by decide +kernel
theorem dX3_makeUse_164 : decode cX3_makeUse 164 = .ok (.imul, 1) := by decide +kernel
theorem dX3_makeUse_165 : decode cX3_makeUse 165 = .ok (.iload 6, 2) := by decide +kernel
theorem dX3_makeUse_167 : decode cX3_makeUse 167 = .ok (.iadd, 1) := by decide +kernel
theorem dX3_makeUse_168 : decode cX3_makeUse 168 = .ok (.iload_n 3, 1) := by decide +kernel
theorem dX3_makeUse_169 : decode cX3_makeUse 169 = .ok (.invokevirtual 81, 3) := by decide +kernel
theorem dX3_makeUse_172 : decode cX3_makeUse 172 = .ok (.goto 18, 3) := by decide +kernel
theorem dX3_makeUse_175 : decode cX3_makeUse 175 = .ok (.iload 5, 2) := by decide +kernel
theorem dX3_makeUse_177 : decode cX3_makeUse 177 = .ok (.ifCond .ne 13, 3) := by decide +kernel
theorem dX3_makeUse_180 : decode cX3_makeUse 180 = .ok (.aload_n 0, 1) := by decide +kernel
theorem dX3_makeUse_181 : decode cX3_makeUse 181 = .ok (.aload_n 1, 1) := by decide +kernel
theorem dX3_makeUse_182 : decode cX3_makeUse 182 = .ok (.aload 4, 2) := by decide +kernel
theorem dX3_makeUse_184 : decode cX3_makeUse 184 = .ok (.iload 6, 2) := by decide +kernel
theorem dX3_makeUse_186 : decode cX3_makeUse 186 = .ok (.iload_n 2, 1) := by decide +kernel
theorem dX3_makeUse_187 : decode cX3_makeUse 187 = .ok (.invokevirtual 85, 3) := by decide +kernel
theorem dX3_makeUse_190 : decode cX3_makeUse 190 = .ok (.iinc 6 1, 3) := by decide +kernel
theorem dX3_makeUse_193 : decode cX3_makeUse 193 = .ok (.goto (-131), 3) := by decide +kernel
theorem dX3_makeUse_196 : decode cX3_makeUse 196 = .ok (.return_, 1) := by decide +kernel
theorem dX3_makeParts_0 : decode cX3_makeParts 0 = .ok (.iconst 0, 1) := by decide +kernel
theorem dX3_makeParts_1 : decode cX3_makeParts 1 = .ok (.istore 5, 2) := by decide +kernel
theorem dX3_makeParts_3 : decode cX3_makeParts 3 = .ok (.iload 5, 2) := by decide +kernel
theorem dX3_makeParts_5 : decode cX3_makeParts 5 = .ok (.aload_n 1, 1) := by decide +kernel
theorem dX3_makeParts_6 : decode cX3_makeParts 6 = .ok (.getfield 32, 3) := by decide +kernel
theorem dX3_makeParts_9 : decode cX3_makeParts 9 = .ok (.invokevirtual 38, 3) := by decide +kernel
theorem dX3_makeParts_12 : decode cX3_makeParts 12 = .ok (.if_icmp .ge 53, 3) := by decide +kernel
theorem dX3_makeParts_15 : decode cX3_makeParts 15 = .ok (.aload_n 0, 1) := by decide +kernel
theorem dX3_makeParts_16 : decode cX3_makeParts 16 = .ok (.getfield 19, 3) := by decide +kernel
theorem dX3_makeParts_19 : decode cX3_makeParts 19 = .ok (.getfield 44, 3) := by decide +kernel
theorem dX3_makeParts_22 : decode cX3_makeParts 22 = .ok (.ifCond .ne 43, 3) := by decide +kernel
theorem dX3_makeParts_25 : decode cX3_makeParts 25 = .ok (.aload_n 1, 1) := by decide +kernel
theorem dX3_makeParts_26 : decode cX3_makeParts 26 = .ok (.getfield 32, 3) := by decide +kernel
theorem dX3_makeParts_29 : decode cX3_makeParts 29 = .ok (.iload 5, 2) := by decide +kernel
theorem dX3_makeParts_31 : decode cX3_makeParts 31 = .ok (.invokevirtual 48, 3) := by decide +kernel
theorem dX3_makeParts_34 : decode cX3_makeParts 34 = .ok (.checkcast 33, 3) := by decide +kernel
theorem dX3_makeParts_37 : decode cX3_makeParts 37 = .ok (.astore 6, 2) := by decide +kernel
theorem dX3_makeParts_39 : decode cX3_makeParts 39 = .ok (.aload 6, 2) := by decide +kernel
theorem dX3_makeParts_41 : decode cX3_makeParts 41 = .ok (.getfield 56, 3) := by decide +kernel
theorem dX3_makeParts_44 : decode cX3_makeParts 44 = .ok (.iload_n 2, 1) := by decide +kernel
theorem dX3_makeParts_45 : decode cX3_makeParts 45 = .ok (.if_icmp .ne 14, 3) := by decide +kernel
theorem dX3_makeParts_48 : decode cX3_makeParts 48 = .ok (.aload_n 0, 1) := by decide +kernel
theorem dX3_makeParts_49 : decode cX3_makeParts 49 = .ok (.aload 6, 2) := by decide +kernel
theorem dX3_makeParts_51 : decode cX3_makeParts 51 = .ok (.iload_n 3, 1) := by decide +kernel
theorem dX3_makeParts_52 : decode cX3_makeParts 52 = .ok (.iload 4, 2) := by decide +kernel
theorem dX3_makeParts_54 : decode cX3_makeParts 54 = .ok (.iconst 1, 1) := by decide +kernel
theorem dX3_makeParts_55 : decode cX3_makeParts 55 = .ok (.iadd, 1) := by decide +kernel
theorem dX3_makeParts_56 : decode cX3_makeParts 56 = .ok (.invokevirtual 52, 3) := by decide +kernel
theorem dX3_makeParts_59 : decode cX3_makeParts 59 = .ok (.iinc 5 1, 3) := by decide +kernel
theorem dX3_makeParts_62 : decode cX3_makeParts 62 = .ok (.goto (-59), 3) := by decide +kernel
theorem dX3_makeParts_65 : decode cX3_makeParts 65 = .ok (.return_, 1) := by decide +kernel
theorem dX3_makePiece_0 : decode cX3_makePiece 0 = .ok (.aload_n 2, 1) := by decide +kernel
theorem dX3_makePiece_1 : decode cX3_makePiece 1 = .ok (.getfield 68, 3) := by decide +kernel
theorem dX3_makePiece_4 : decode cX3_makePiece 4 = .ok (.iload_n 3, 1) := by decide +kernel
theorem dX3_makePiece_5 : decode cX3_makePiece 5 = .ok (.iaload, 1) := by decide +kernel
theorem dX3_makePiece_6 : decode cX3_makePiece 6 = .ok (.istore 5, 2) := by decide +kernel
theorem dX3_makePiece_8 : decode cX3_makePiece 8 = .ok (.aload_n 2, 1) := by decide +kernel
theorem dX3_makePiece_9 : decode cX3_makePiece 9 = .ok (.getfield 74, 3) := by decide +kernel
theorem dX3_makePiece_12 : decode cX3_makePiece 12 = .ok (.iload_n 3, 1) := by decide +kernel
theorem dX3_makePiece_13 : decode cX3_makePiece 13 = .ok (.iaload, 1) := by decide +kernel
theorem dX3_makePiece_14 : decode cX3_makePiece 14 = .ok (.istore 6, 2) := by decide +kernel
theorem dX3_makePiece_16 : decode cX3_makePiece 16 = .ok (.aload_n 2, 1) := by decide +kernel
theorem dX3_makePiece_17 : decode cX3_makePiece 17 = .ok (.getfield 89, 3) := by decide +kernel
theorem dX3_makePiece_20 : decode cX3_makePiece 20 = .ok (.iload_n 3, 1) := by decide +kernel
theorem dX3_makePiece_21 : decode cX3_makePiece 21 = .ok (.iaload, 1) := by decide +kernel
theorem dX3_makePiece_22 : decode cX3_makePiece 22 = .ok (.istore 7, 2) := by decide +kernel
theorem dX3_makePiece_24 : decode cX3_makePiece 24 = .ok (.aload_n 0, 1) := by decide +kernel
theorem dX3_makePiece_25 : decode cX3_makePiece 25 = .ok (.getfield 19, 3) := by decide +kernel
theorem dX3_makePiece_28 : decode cX3_makePiece 28 = .ok (.aload_n 1, 1) := by decide +kernel
theorem dX3_makePiece_29 : decode cX3_makePiece 29 = .ok (.iload_n 3, 1) := by decide +kernel
theorem dX3_makePiece_30 : decode cX3_makePiece 30 = .ok (.iload 5, 2) := by decide +kernel
theorem dX3_makePiece_32 : decode cX3_makePiece 32 = .ok (.iload 6, 2) := by decide +kernel
theorem dX3_makePiece_34 : decode cX3_makePiece 34 = .ok (.iload 4, 2) := by decide +kernel
theorem dX3_makePiece_36 : decode cX3_makePiece 36 = .ok (.invokevirtual 92, 3) := by decide +kernel
theorem dX3_makePiece_39 : decode cX3_makePiece 39 = .ok (.iload 5, 2) := by decide +kernel
theorem dX3_makePiece_41 : decode cX3_makePiece 41 = .ok (.ifCond .ne 21, 3) := by decide +kernel
theorem dX3_makePiece_44 : decode cX3_makePiece 44 = .ok (.aload_n 0, 1) := by decide +kernel
theorem dX3_makePiece_45 : decode cX3_makePiece 45 = .ok (.getfield 19, 3) := by decide +kernel
theorem dX3_makePiece_48 : decode cX3_makePiece 48 = .ok (.aload_n 2, 1) := by decide +kernel
theorem dX3_makePiece_49 : decode cX3_makePiece 49 = .ok (.getfield 96, 3) := by decide +kernel
theorem dX3_makePiece_52 : decode cX3_makePiece 52 = .ok (.iload 6, 2) := by decide +kernel
theorem dX3_makePiece_54 : decode cX3_makePiece 54 = .ok (.iload 7, 2) := by decide +kernel
theorem dX3_makePiece_56 : decode cX3_makePiece 56 = .ok (.invokevirtual 99, 3) := by decide +kernel
theorem dX3_makePiece_59 : decode cX3_makePiece 59 = .ok (.goto 98, 3) := by decide +kernel
theorem dX3_makePiece_62 : decode cX3_makePiece 62 = .ok (.iload 5, 2) := by decide +kernel
theorem dX3_makePiece_64 : decode cX3_makePiece 64 = .ok (.iconst 1, 1) := by decide +kernel
theorem dX3_makePiece_65 : decode cX3_makePiece 65 = .ok (.if_icmp .ne 23, 3) := by decide +kernel
theorem dX3_makePiece_68 : decode cX3_makePiece 68 = .ok (.aload_n 0, 1) := by decide +kernel
theorem dX3_makePiece_69 : decode cX3_makePiece 69 = .ok (.getfield 19, 3) := by decide +kernel
theorem dX3_makePiece_72 : decode cX3_makePiece 72 = .ok (.aload_n 1, 1) := by decide +kernel
theorem dX3_makePiece_73 : decode cX3_makePiece 73 = .ok (.getfield 103, 3) := by decide +kernel
theorem dX3_makePiece_76 : decode cX3_makePiece 76 = .ok (.iconst 0, 1) := by decide +kernel
theorem dX3_makePiece_77 : decode cX3_makePiece 77 = .ok (.aload_n 1, 1) := by decide +kernel
theorem dX3_makePiece_78 : decode cX3_makePiece 78 = .ok (.getfield 103, 3) := by decide +kernel
theorem dX3_makePiece_81 : decode cX3_makePiece 81 = .ok (.arraylength, 1) := by decide +kernel
theorem dX3_makePiece_82 : decode cX3_makePiece 82 = .ok (.invokevirtual 99, 3) := by decide +kernel
theorem dX3_makePiece_85 : decode cX3_makePiece 85 = .ok (.goto 72, 3) := by decide +kernel
theorem dX3_makePiece_88 : decode cX3_makePiece 88 = .ok (.iload 5, 2) := by decide +kernel
theorem dX3_makePiece_90 : decode cX3_makePiece 90 = .ok (.iconst 2, 1) := by decide +kernel
theorem dX3_makePiece_91 : decode cX3_makePiece 91 = .ok (.if_icmp .eq 9, 3) := by decide +kernel
theorem dX3_makePiece_94 : decode cX3_makePiece 94 = .ok (.iload 5, 2) := by decide +kernel
theorem dX3_makePiece_96 : decode cX3_makePiece 96 = .ok (.iconst 3, 1) := by decide +kernel
theorem dX3_makePiece_97 : decode cX3_makePiece 97 = .ok (.if_icmp .ne 60, 3) := by decide +kernel
theorem dX3_makePiece_100 : decode cX3_makePiece 100 = .ok (.iload 5, 2) := by decide +kernel
theorem dX3_makePiece_102 : decode cX3_makePiece 102 = .ok (.iconst 3, 1) := by decide +kernel
theorem dX3_makePiece_103 : decode cX3_makePiece 103 = .ok (.if_icmp .ne 15, 3) := by decide +kernel
theorem dX3_makePiece_106 : decode cX3_makePiece 106 = .ok (.aload_n 1, 1) := by decide +kernel
theorem dX3_makePiece_107 : decode cX3_makePiece 107 = .ok (.getfield 71, 3) := by decide +kernel
theorem dX3_makePiece_110 : decode cX3_makePiece 110 = .ok (.iload 7, 2) := by decide +kernel
theorem dX3_makePiece_112 : decode cX3_makePiece 112 = .ok (.invokestatic 77, 3) := by decide +kernel
theorem dX3_makePiece_115 : decode cX3_makePiece 115 = .ok (.goto 4, 3) := by decide +kernel
theorem dX3_makePiece_118 : decode cX3_makePiece 118 = .ok (.iconst 0, 1) := by decide +kernel
theorem dX3_makePiece_119 : decode cX3_makePiece 119 = .ok (.istore 8, 2) := by decide +kernel
theorem dX3_makePiece_121 : decode cX3_makePiece 121 = .ok (.aload_n 0, 1) := by decide +kernel
theorem dX3_makePiece_122 : decode cX3_makePiece 122 = .ok (.aload_n 1, 1) := by decide +kernel
theorem dX3_makePiece_123 : decode cX3_makePiece 123 = .ok (.getfield 71, 3) := by decide +kernel
theorem dX3_makePiece_126 : decode cX3_makePiece 126 = .ok (.iload 6, 2) := by decide +kernel
theorem dX3_makePiece_128 : decode cX3_makePiece 128 = .ok (.invokestatic 77, 3) := by decide +kernel
theorem dX3_makePiece_131 : decode cX3_makePiece 131 = .ok (.iload 8, 2) := by decide +kernel
theorem dX3_makePiece_133 : decode cX3_makePiece 133 = .ok (.iadd, 1) := by decide +kernel
theorem dX3_makePiece_134 : decode cX3_makePiece 134 = .ok (.invokevirtual 106, 3) := by decide +kernel
theorem dX3_makePiece_137 : decode cX3_makePiece 137 = .ok (.istore 9, 2) := by decide +kernel
theorem dX3_makePiece_139 : decode cX3_makePiece 139 = .ok (.aload_n 0, 1) := by decide +kernel
theorem dX3_makePiece_140 : decode cX3_makePiece 140 = .ok (.getfield 19, 3) := by decide +kernel
theorem dX3_makePiece_143 : decode cX3_makePiece 143 = .ok (.aload_n 0, 1) := by decide +kernel
theorem dX3_makePiece_144 : decode cX3_makePiece 144 = .ok (.getfield 9, 3) := by decide +kernel
theorem dX3_makePiece_147 : decode cX3_makePiece 147 = .ok (.iload 9, 2) := by decide +kernel
theorem dX3_makePiece_149 : decode cX3_makePiece 149 = .ok (.bipush 6, 2) := by decide +kernel
theorem dX3_makePiece_151 : decode cX3_makePiece 151 = .ok (.iload 9, 2) := by decide +kernel
theorem dX3_makePiece_153 : decode cX3_makePiece 153 = .ok (.isub, 1) := by decide +kernel
theorem dX3_makePiece_154 : decode cX3_makePiece 154 = .ok (.invokevirtual 99, 3) := by decide +kernel
theorem dX3_makePiece_157 : decode cX3_makePiece 157 = .ok (.return_, 1) := by decide +kernel
theorem dX3_spell_0 : decode cX3_spell 0 = .ok (.bipush 6, 2) := by decide +kernel
theorem dX3_spell_2 : decode cX3_spell 2 = .ok (.istore_n 2, 1) := by decide +kernel
theorem dX3_spell_3 : decode cX3_spell 3 = .ok (.iload_n 1, 1) := by decide +kernel
theorem dX3_spell_4 : decode cX3_spell 4 = .ok (.istore_n 3, 1) := by decide +kernel
theorem dX3_spell_5 : decode cX3_spell 5 = .ok (.iinc 2 (-1), 3) := by decide +kernel
theorem dX3_spell_8 : decode cX3_spell 8 = .ok (.aload_n 0, 1) := by decide +kernel
theorem dX3_spell_9 : decode cX3_spell 9 = .ok (.getfield 9, 3) := by decide +kernel
theorem dX3_spell_12 : decode cX3_spell 12 = .ok (.iload_n 2, 1) := by decide +kernel
theorem dX3_spell_13 : decode cX3_spell 13 = .ok (.bipush 48, 2) := by decide +kernel
theorem dX3_spell_15 : decode cX3_spell 15 = .ok (.iload_n 3, 1) := by decide +kernel
theorem dX3_spell_16 : decode cX3_spell 16 = .ok (.bipush 10, 2) := by decide +kernel
theorem dX3_spell_18 : decode cX3_spell 18 = .ok (.irem, 1) := by decide +kernel
theorem dX3_spell_19 : decode cX3_spell 19 = .ok (.iadd, 1) := by decide +kernel
theorem dX3_spell_20 : decode cX3_spell 20 = .ok (.iastore, 1) := by decide +kernel
theorem dX3_spell_21 : decode cX3_spell 21 = .ok (.iload_n 3, 1) := by decide +kernel
theorem dX3_spell_22 : decode cX3_spell 22 = .ok (.bipush 10, 2) := by decide +kernel
theorem dX3_spell_24 : decode cX3_spell 24 = .ok (.idiv, 1) := by decide +kernel
theorem dX3_spell_25 : decode cX3_spell 25 = .ok (.istore_n 3, 1) := by decide +kernel
theorem dX3_spell_26 : decode cX3_spell 26 = .ok (.iload_n 2, 1) := by decide +kernel
theorem dX3_spell_27 : decode cX3_spell 27 = .ok (.ifCond .le 7, 3) := by decide +kernel
theorem dX3_spell_30 : decode cX3_spell 30 = .ok (.iload_n 3, 1) := by decide +kernel
theorem dX3_spell_31 : decode cX3_spell 31 = .ok (.ifCond .gt (-26), 3) := by decide +kernel
theorem dX3_spell_34 : decode cX3_spell 34 = .ok (.iload_n 2, 1) := by decide +kernel
theorem dX3_spell_35 : decode cX3_spell 35 = .ok (.ireturn, 1) := by decide +kernel
theorem dX4_init_0 : decode cX4_init 0 = .ok (.aload_n 0, 1) := by decide +kernel
theorem dX4_init_1 : decode cX4_init 1 = .ok (.invokespecial 3, 3) := by decide +kernel
theorem dX4_init_4 : decode cX4_init 4 = .ok (.aload_n 0, 1) := by decide +kernel
theorem dX4_init_5 : decode cX4_init 5 = .ok (.new 9, 3) := by decide +kernel
theorem dX4_init_8 : decode cX4_init 8 = .ok (.dup, 1) := by decide +kernel
theorem dX4_init_9 : decode cX4_init 9 = .ok (.iconst (-1), 1) := by decide +kernel
theorem dX4_init_10 : decode cX4_init 10 = .ok (.iconst (-1), 1) := by decide +kernel
theorem dX4_init_11 : decode cX4_init 11 = .ok (.aconst_null, 1) := by decide +kernel
theorem dX4_init_12 : decode cX4_init 12 = .ok (.iconst 0, 1) := by decide +kernel
theorem dX4_init_13 : decode cX4_init 13 = .ok (.newarray .int, 2) := by decide +kernel
theorem dX4_init_15 : decode cX4_init 15 = .ok (.invokespecial 11, 3) := by decide +kernel
theorem dX4_init_18 : decode cX4_init 18 = .ok (.putfield 14, 3) := by decide +kernel
theorem dX4_init_21 : decode cX4_init 21 = .ok (.aload_n 0, 1) := by decide +kernel
theorem dX4_init_22 : decode cX4_init 22 = .ok (.bipush 24, 2) := by decide +kernel
theorem dX4_init_24 : decode cX4_init 24 = .ok (.anewarray 9, 3) := by decide +kernel
theorem dX4_init_27 : decode cX4_init 27 = .ok (.putfield 20, 3) := by decide +kernel
theorem dX4_init_30 : decode cX4_init 30 = .ok (.return_, 1) := by decide +kernel
theorem dX4_at_0 : decode cX4_at 0 = .ok (.iload_n 1, 1) := by decide +kernel
theorem dX4_at_1 : decode cX4_at 1 = .ok (.ifCond .lt 18, 3) := by decide +kernel
theorem dX4_at_4 : decode cX4_at 4 = .ok (.iload_n 1, 1) := by decide +kernel
theorem dX4_at_5 : decode cX4_at 5 = .ok (.bipush 24, 2) := by decide +kernel
theorem dX4_at_7 : decode cX4_at 7 = .ok (.if_icmp .ge 12, 3) := by decide +kernel
theorem dX4_at_10 : decode cX4_at 10 = .ok (.aload_n 0, 1) := by decide +kernel
theorem dX4_at_11 : decode cX4_at 11 = .ok (.getfield 20, 3) := by decide +kernel
theorem dX4_at_14 : decode cX4_at 14 = .ok (.iload_n 1, 1) := by decide +kernel
theorem dX4_at_15 : decode cX4_at 15 = .ok (.aaload, 1) := by decide +kernel
theorem dX4_at_16 : decode cX4_at 16 = .ok (.goto 4, 3) := by decide +kernel
theorem dX4_at_19 : decode cX4_at 19 = .ok (.aconst_null, 1) := by decide +kernel
theorem dX4_at_20 : decode cX4_at 20 = .ok (.areturn, 1) := by decide +kernel
theorem dX4_freeSlot_0 : decode cX4_freeSlot 0 = .ok (.iconst 0, 1) := by decide +kernel
theorem dX4_freeSlot_1 : decode cX4_freeSlot 1 = .ok (.istore_n 1, 1) := by decide +kernel
theorem dX4_freeSlot_2 : decode cX4_freeSlot 2 = .ok (.iload_n 1, 1) := by decide +kernel
theorem dX4_freeSlot_3 : decode cX4_freeSlot 3 = .ok (.bipush 24, 2) := by decide +kernel
theorem dX4_freeSlot_5 : decode cX4_freeSlot 5 = .ok (.if_icmp .ge 20, 3) := by decide +kernel
theorem dX4_freeSlot_8 : decode cX4_freeSlot 8 = .ok (.aload_n 0, 1) := by decide +kernel
theorem dX4_freeSlot_9 : decode cX4_freeSlot 9 = .ok (.getfield 20, 3) := by decide +kernel
theorem dX4_freeSlot_12 : decode cX4_freeSlot 12 = .ok (.iload_n 1, 1) := by decide +kernel
theorem dX4_freeSlot_13 : decode cX4_freeSlot 13 = .ok (.aaload, 1) := by decide +kernel
theorem dX4_freeSlot_14 : decode cX4_freeSlot 14 = .ok (.ifnonnull 5, 3) := by decide +kernel
theorem dX4_freeSlot_17 : decode cX4_freeSlot 17 = .ok (.iload_n 1, 1) := by decide +kernel
theorem dX4_freeSlot_18 : decode cX4_freeSlot 18 = .ok (.ireturn, 1) := by decide +kernel
theorem dX4_freeSlot_19 : decode cX4_freeSlot 19 = .ok (.iinc 1 1, 3) := by decide +kernel
theorem dX4_freeSlot_22 : decode cX4_freeSlot 22 = .ok (.goto (-20), 3) := by decide +kernel
theorem dX4_freeSlot_25 : decode cX4_freeSlot 25 = .ok (.iconst (-1), 1) := by decide +kernel
theorem dX4_freeSlot_26 : decode cX4_freeSlot 26 = .ok (.ireturn, 1) := by decide +kernel
theorem dX4_put_0 : decode cX4_put 0 = .ok (.aload_n 1, 1) := by decide +kernel
theorem dX4_put_1 : decode cX4_put 1 = .ok (.getfield 24, 3) := by decide +kernel
theorem dX4_put_4 : decode cX4_put 4 = .ok (.ifnull 19, 3) := by decide +kernel
theorem dX4_put_7 : decode cX4_put 7 = .ok (.aload_n 1, 1) := by decide +kernel
theorem dX4_put_8 : decode cX4_put 8 = .ok (.getfield 27, 3) := by decide +kernel
theorem dX4_put_11 : decode cX4_put 11 = .ok (.ifCond .lt 12, 3) := by decide +kernel
theorem dX4_put_14 : decode cX4_put 14 = .ok (.aload_n 1, 1) := by decide +kernel
theorem dX4_put_15 : decode cX4_put 15 = .ok (.getfield 27, 3) := by decide +kernel
theorem dX4_put_18 : decode cX4_put 18 = .ok (.bipush 24, 2) := by decide +kernel
theorem dX4_put_20 : decode cX4_put 20 = .ok (.if_icmp .lt 4, 3) := by decide +kernel
theorem dX4_put_23 : decode cX4_put 23 = .ok (.return_, 1) := by decide +kernel
theorem dX4_put_24 : decode cX4_put 24 = .ok (.aload_n 0, 1) := by decide +kernel
theorem dX4_put_25 : decode cX4_put 25 = .ok (.getfield 20, 3) := by decide +kernel
theorem dX4_put_28 : decode cX4_put 28 = .ok (.aload_n 1, 1) := by decide +kernel
theorem dX4_put_29 : decode cX4_put 29 = .ok (.getfield 27, 3) := by decide +kernel
theorem dX4_put_32 : decode cX4_put 32 = .ok (.aload_n 1, 1) := by decide +kernel
theorem dX4_put_33 : decode cX4_put 33 = .ok (.aastore, 1) := by decide +kernel
theorem dX4_put_34 : decode cX4_put 34 = .ok (.aload_n 1, 1) := by decide +kernel
theorem dX4_put_35 : decode cX4_put 35 = .ok (.getfield 24, 3) := by decide +kernel
theorem dX4_put_38 : decode cX4_put 38 = .ok (.getfield 31, 3) := by decide +kernel
theorem dX4_put_41 : decode cX4_put 41 = .ok (.aload_n 1, 1) := by decide +kernel
theorem dX4_put_42 : decode cX4_put 42 = .ok (.invokevirtual 35, 3) := by decide +kernel
theorem dX4_put_45 : decode cX4_put 45 = .ok (.pop, 1) := by decide +kernel
theorem dX4_put_46 : decode cX4_put 46 = .ok (.aload_n 0, 1) := by decide +kernel
theorem dX4_put_47 : decode cX4_put 47 = .ok (.dup, 1) := by decide +kernel
theorem dX4_put_48 : decode cX4_put 48 = .ok (.getfield 41, 3) := by decide +kernel
theorem dX4_put_51 : decode cX4_put 51 = .ok (.iconst 1, 1) := by decide +kernel
theorem dX4_put_52 : decode cX4_put 52 = .ok (.iadd, 1) := by decide +kernel
theorem dX4_put_53 : decode cX4_put 53 = .ok (.putfield 41, 3) := by decide +kernel
theorem dX4_put_56 : decode cX4_put 56 = .ok (.return_, 1) := by decide +kernel
theorem dX4_placeOf_0 : decode cX4_placeOf 0 = .ok (.aload_n 1, 1) := by decide +kernel
theorem dX4_placeOf_1 : decode cX4_placeOf 1 = .ok (.getfield 24, 3) := by decide +kernel
theorem dX4_placeOf_4 : decode cX4_placeOf 4 = .ok (.ifnonnull 5, 3) := by decide +kernel
theorem dX4_placeOf_7 : decode cX4_placeOf 7 = .ok (.iconst (-1), 1) := by decide +kernel
theorem dX4_placeOf_8 : decode cX4_placeOf 8 = .ok (.ireturn, 1) := by decide +kernel
theorem dX4_placeOf_9 : decode cX4_placeOf 9 = .ok (.aload_n 1, 1) := by decide +kernel
theorem dX4_placeOf_10 : decode cX4_placeOf 10 = .ok (.getfield 24, 3) := by decide +kernel
theorem dX4_placeOf_13 : decode cX4_placeOf 13 = .ok (.getfield 31, 3) := by decide +kernel
theorem dX4_placeOf_16 : decode cX4_placeOf 16 = .ok (.astore_n 2, 1) := by decide +kernel
theorem dX4_placeOf_17 : decode cX4_placeOf 17 = .ok (.iconst 0, 1) := by decide +kernel
theorem dX4_placeOf_18 : decode cX4_placeOf 18 = .ok (.istore_n 3, 1) := by decide +kernel
theorem dX4_placeOf_19 : decode cX4_placeOf 19 = .ok (.iload_n 3, 1) := by decide +kernel
theorem dX4_placeOf_20 : decode cX4_placeOf 20 = .ok (.aload_n 2, 1) := by decide +kernel
theorem dX4_placeOf_21 : decode cX4_placeOf 21 = .ok (.invokevirtual 44, 3) := by decide +kernel
theorem dX4_placeOf_24 : decode cX4_placeOf 24 = .ok (.if_icmp .ge 20, 3) := by decide +kernel
theorem dX4_placeOf_27 : decode cX4_placeOf 27 = .ok (.aload_n 2, 1) := by decide +kernel
theorem dX4_placeOf_28 : decode cX4_placeOf 28 = .ok (.iload_n 3, 1) := by decide +kernel
theorem dX4_placeOf_29 : decode cX4_placeOf 29 = .ok (.invokevirtual 48, 3) := by decide +kernel
theorem dX4_placeOf_32 : decode cX4_placeOf 32 = .ok (.aload_n 1, 1) := by decide +kernel
theorem dX4_placeOf_33 : decode cX4_placeOf 33 = .ok (.if_acmp .ne 5, 3) := by decide +kernel
theorem dX4_placeOf_36 : decode cX4_placeOf 36 = .ok (.iload_n 3, 1) := by decide +kernel
theorem dX4_placeOf_37 : decode cX4_placeOf 37 = .ok (.ireturn, 1) := by decide +kernel
theorem dX4_placeOf_38 : decode cX4_placeOf 38 = .ok (.iinc 3 1, 3) := by decide +kernel
theorem dX4_placeOf_41 : decode cX4_placeOf 41 = .ok (.goto (-22), 3) := by decide +kernel
theorem dX4_placeOf_44 : decode cX4_placeOf 44 = .ok (.iconst (-1), 1) := by decide +kernel
theorem dX4_placeOf_45 : decode cX4_placeOf 45 = .ok (.ireturn, 1) := by decide +kernel
theorem dX4_shift_0 : decode cX4_shift 0 = .ok (.aload_n 0, 1) := by decide +kernel
theorem dX4_shift_1 : decode cX4_shift 1 = .ok (.aload_n 1, 1) := by decide +kernel
theorem dX4_shift_2 : decode cX4_shift 2 = .ok (.invokevirtual 52, 3) := by decide +kernel
theorem dX4_shift_5 : decode cX4_shift 5 = .ok (.istore_n 3, 1) := by decide +kernel
theorem dX4_shift_6 : decode cX4_shift 6 = .ok (.iload_n 3, 1) := by decide +kernel
theorem dX4_shift_7 : decode cX4_shift 7 = .ok (.iconst (-1), 1) := by decide +kernel
theorem dX4_shift_8 : decode cX4_shift 8 = .ok (.if_icmp .eq 21, 3) := by decide +kernel
theorem dX4_shift_11 : decode cX4_shift 11 = .ok (.iload_n 2, 1) := by decide +kernel
theorem dX4_shift_12 : decode cX4_shift 12 = .ok (.ifCond .lt 17, 3) := by decide +kernel
theorem dX4_shift_15 : decode cX4_shift 15 = .ok (.iload_n 2, 1) := by decide +kernel
theorem dX4_shift_16 : decode cX4_shift 16 = .ok (.aload_n 1, 1) := by decide +kernel
theorem dX4_shift_17 : decode cX4_shift 17 = .ok (.getfield 24, 3) := by decide +kernel
theorem dX4_shift_20 : decode cX4_shift 20 = .ok (.getfield 31, 3) := by decide +kernel
theorem dX4_shift_23 : decode cX4_shift 23 = .ok (.invokevirtual 44, 3) := by decide +kernel
theorem dX4_shift_26 : decode cX4_shift 26 = .ok (.if_icmp .lt 5, 3) := by decide +kernel
theorem dX4_shift_29 : decode cX4_shift 29 = .ok (.iconst 0, 1) := by decide +kernel
theorem dX4_shift_30 : decode cX4_shift 30 = .ok (.ireturn, 1) := by decide +kernel
theorem dX4_shift_31 : decode cX4_shift 31 = .ok (.aload_n 1, 1) := by decide +kernel
theorem dX4_shift_32 : decode cX4_shift 32 = .ok (.getfield 24, 3) := by decide +kernel
theorem dX4_shift_35 : decode cX4_shift 35 = .ok (.getfield 31, 3) := by decide +kernel
theorem dX4_shift_38 : decode cX4_shift 38 = .ok (.iload_n 3, 1) := by decide +kernel
theorem dX4_shift_39 : decode cX4_shift 39 = .ok (.invokevirtual 56, 3) := by decide +kernel
theorem dX4_shift_42 : decode cX4_shift 42 = .ok (.pop, 1) := by decide +kernel
theorem dX4_shift_43 : decode cX4_shift 43 = .ok (.aload_n 1, 1) := by decide +kernel
theorem dX4_shift_44 : decode cX4_shift 44 = .ok (.getfield 24, 3) := by decide +kernel
theorem dX4_shift_47 : decode cX4_shift 47 = .ok (.getfield 31, 3) := by decide +kernel
theorem dX4_shift_50 : decode cX4_shift 50 = .ok (.iload_n 2, 1) := by decide +kernel
theorem dX4_shift_51 : decode cX4_shift 51 = .ok (.aload_n 1, 1) := by decide +kernel
theorem dX4_shift_52 : decode cX4_shift 52 = .ok (.invokevirtual 59, 3) := by decide +kernel
theorem dX4_shift_55 : decode cX4_shift 55 = .ok (.iconst 1, 1) := by decide +kernel
theorem dX4_shift_56 : decode cX4_shift 56 = .ok (.ireturn, 1) := by decide +kernel
theorem dX4_remove_0 : decode cX4_remove 0 = .ok (.aload_n 0, 1) := by decide +kernel
theorem dX4_remove_1 : decode cX4_remove 1 = .ok (.getfield 41, 3) := by decide +kernel
theorem dX4_remove_4 : decode cX4_remove 4 = .ok (.istore_n 2, 1) := by decide +kernel
theorem dX4_remove_5 : decode cX4_remove 5 = .ok (.aload_n 0, 1) := by decide +kernel
theorem dX4_remove_6 : decode cX4_remove 6 = .ok (.aload_n 1, 1) := by decide +kernel
theorem dX4_remove_7 : decode cX4_remove 7 = .ok (.invokevirtual 52, 3) := by decide +kernel
theorem dX4_remove_10 : decode cX4_remove 10 = .ok (.istore_n 3, 1) := by decide +kernel
theorem dX4_remove_11 : decode cX4_remove 11 = .ok (.iload_n 3, 1) := by decide +kernel
theorem dX4_remove_12 : decode cX4_remove 12 = .ok (.iconst (-1), 1) := by decide +kernel
theorem dX4_remove_13 : decode cX4_remove 13 = .ok (.if_icmp .eq 15, 3) := by decide +kernel
theorem dX4_remove_16 : decode cX4_remove 16 = .ok (.aload_n 1, 1) := by decide +kernel
theorem dX4_remove_17 : decode cX4_remove 17 = .ok (.getfield 24, 3) := by decide +kernel
theorem dX4_remove_20 : decode cX4_remove 20 = .ok (.getfield 31, 3) := by decide +kernel
theorem dX4_remove_23 : decode cX4_remove 23 = .ok (.iload_n 3, 1) := by decide +kernel
theorem dX4_remove_24 : decode cX4_remove 24 = .ok (.invokevirtual 56, 3) := by decide +kernel
theorem dX4_remove_27 : decode cX4_remove 27 = .ok (.pop, 1) := by decide +kernel
theorem dX4_remove_28 : decode cX4_remove 28 = .ok (.iconst 0, 1) := by decide +kernel
theorem dX4_remove_29 : decode cX4_remove 29 = .ok (.istore 4, 2) := by decide +kernel
theorem dX4_remove_31 : decode cX4_remove 31 = .ok (.iload 4, 2) := by decide +kernel
theorem dX4_remove_33 : decode cX4_remove 33 = .ok (.bipush 24, 2) := by decide +kernel
theorem dX4_remove_35 : decode cX4_remove 35 = .ok (.if_icmp .ge 62, 3) := by decide +kernel
theorem dX4_remove_38 : decode cX4_remove 38 = .ok (.aload_n 0, 1) := by decide +kernel
theorem dX4_remove_39 : decode cX4_remove 39 = .ok (.getfield 20, 3) := by decide +kernel
theorem dX4_remove_42 : decode cX4_remove 42 = .ok (.iload 4, 2) := by decide +kernel
theorem dX4_remove_44 : decode cX4_remove 44 = .ok (.aaload, 1) := by decide +kernel
theorem dX4_remove_45 : decode cX4_remove 45 = .ok (.ifnull 46, 3) := by decide +kernel
theorem dX4_remove_48 : decode cX4_remove 48 = .ok (.aload_n 0, 1) := by decide +kernel
theorem dX4_remove_49 : decode cX4_remove 49 = .ok (.getfield 20, 3) := by decide +kernel
theorem dX4_remove_52 : decode cX4_remove 52 = .ok (.iload 4, 2) := by decide +kernel
theorem dX4_remove_54 : decode cX4_remove 54 = .ok (.aaload, 1) := by decide +kernel
theorem dX4_remove_55 : decode cX4_remove 55 = .ok (.aload_n 1, 1) := by decide +kernel
theorem dX4_remove_56 : decode cX4_remove 56 = .ok (.invokevirtual 62, 3) := by decide +kernel
theorem dX4_remove_59 : decode cX4_remove 59 = .ok (.ifCond .eq 32, 3) := by decide +kernel
theorem dX4_remove_62 : decode cX4_remove 62 = .ok (.aload_n 0, 1) := by decide +kernel
theorem dX4_remove_63 : decode cX4_remove 63 = .ok (.getfield 20, 3) := by decide +kernel
theorem dX4_remove_66 : decode cX4_remove 66 = .ok (.iload 4, 2) := by decide +kernel
theorem dX4_remove_68 : decode cX4_remove 68 = .ok (.aaload, 1) := by decide +kernel
theorem dX4_remove_69 : decode cX4_remove 69 = .ok (.iconst 1, 1) := by decide +kernel
theorem dX4_remove_70 : decode cX4_remove 70 = .ok (.putfield 66, 3) := by decide +kernel
theorem dX4_remove_73 : decode cX4_remove 73 = .ok (.aload_n 0, 1) := by decide +kernel
theorem dX4_remove_74 : decode cX4_remove 74 = .ok (.getfield 20, 3) := by decide +kernel
theorem dX4_remove_77 : decode cX4_remove 77 = .ok (.iload 4, 2) := by decide +kernel
theorem dX4_remove_79 : decode cX4_remove 79 = .ok (.aconst_null, 1) := by decide +kernel
theorem dX4_remove_80 : decode cX4_remove 80 = .ok (.aastore, 1) := by decide +kernel
theorem dX4_remove_81 : decode cX4_remove 81 = .ok (.aload_n 0, 1) := by decide +kernel
theorem dX4_remove_82 : decode cX4_remove 82 = .ok (.dup, 1) := by decide +kernel
theorem dX4_remove_83 : decode cX4_remove 83 = .ok (.getfield 41, 3) := by decide +kernel
theorem dX4_remove_86 : decode cX4_remove 86 = .ok (.iconst 1, 1) := by decide +kernel
theorem dX4_remove_87 : decode cX4_remove 87 = .ok (.isub, 1) := by decide +kernel
theorem dX4_remove_88 : decode cX4_remove 88 = .ok (.putfield 41, 3) := by decide +kernel
theorem dX4_remove_91 : decode cX4_remove 91 = .ok (.iinc 4 1, 3) := by decide +kernel
theorem dX4_remove_94 : decode cX4_remove 94 = .ok (.goto (-63), 3) := by decide +kernel
theorem dX4_remove_97 : decode cX4_remove 97 = .ok (.iload_n 2, 1) := by decide +kernel
theorem dX4_remove_98 : decode cX4_remove 98 = .ok (.aload_n 0, 1) := by decide +kernel
theorem dX4_remove_99 : decode cX4_remove 99 = .ok (.getfield 41, 3) := by decide +kernel
theorem dX4_remove_102 : decode cX4_remove 102 = .ok (.isub, 1) := by decide +kernel
theorem dX4_remove_103 : decode cX4_remove 103 = .ok (.ireturn, 1) := by decide +kernel
theorem dX5_init_0 : decode cX5_init 0 = .ok (.aload_n 0, 1) := by decide +kernel
theorem dX5_init_1 : decode cX5_init 1 = .ok (.invokespecial 1, 3) := by decide +kernel
theorem dX5_init_4 : decode cX5_init 4 = .ok (.aload_n 0, 1) := by decide +kernel
theorem dX5_init_5 : decode cX5_init 5 = .ok (.aload_n 1, 1) := by decide +kernel
theorem dX5_init_6 : decode cX5_init 6 = .ok (.putfield 7, 3) := by decide +kernel
theorem dX5_init_9 : decode cX5_init 9 = .ok (.return_, 1) := by decide +kernel
theorem dX5_shownLength_0 : decode cX5_shownLength 0 = .ok (.aload_n 0, 1) := by decide +kernel
theorem dX5_shownLength_1 : decode cX5_shownLength 1 = .ok (.getfield 13, 3) := by decide +kernel
theorem dX5_shownLength_4 : decode cX5_shownLength 4 = .ok (.ifnonnull 10, 3) := by decide +kernel
theorem dX5_shownLength_7 : decode cX5_shownLength 7 = .ok (.aload_n 0, 1) := by decide +kernel
theorem dX5_shownLength_8 : decode cX5_shownLength 8 = .ok (.getfield 17, 3) := by decide +kernel
theorem dX5_shownLength_11 : decode cX5_shownLength 11 = .ok (.goto 11, 3) := by decide +kernel
theorem dX5_shownLength_14 : decode cX5_shownLength 14 = .ok (.aload_n 0, 1) := by decide +kernel
theorem dX5_shownLength_15 : decode cX5_shownLength 15 = .ok (.getfield 13, 3) := by decide +kernel
theorem dX5_shownLength_18 : decode cX5_shownLength 18 = .ok (.getfield 21, 3) := by decide +kernel
theorem dX5_shownLength_21 : decode cX5_shownLength 21 = .ok (.arraylength, 1) := by decide +kernel
theorem dX5_shownLength_22 : decode cX5_shownLength 22 = .ok (.ireturn, 1) := by decide +kernel
theorem dX5_hasMakerOf_0 : decode cX5_hasMakerOf 0 = .ok (.aload_n 0, 1) := by decide +kernel
theorem dX5_hasMakerOf_1 : decode cX5_hasMakerOf 1 = .ok (.getfield 7, 3) := by decide +kernel
theorem dX5_hasMakerOf_4 : decode cX5_hasMakerOf 4 = .ok (.aload_n 1, 1) := by decide +kernel
theorem dX5_hasMakerOf_5 : decode cX5_hasMakerOf 5 = .ok (.getfield 7, 3) := by decide +kernel
theorem dX5_hasMakerOf_8 : decode cX5_hasMakerOf 8 = .ok (.if_acmp .ne 40, 3) := by decide +kernel
theorem dX5_hasMakerOf_11 : decode cX5_hasMakerOf 11 = .ok (.aload_n 0, 1) := by decide +kernel
theorem dX5_hasMakerOf_12 : decode cX5_hasMakerOf 12 = .ok (.getfield 27, 3) := by decide +kernel
theorem dX5_hasMakerOf_15 : decode cX5_hasMakerOf 15 = .ok (.aload_n 1, 1) := by decide +kernel
theorem dX5_hasMakerOf_16 : decode cX5_hasMakerOf 16 = .ok (.getfield 27, 3) := by decide +kernel
theorem dX5_hasMakerOf_19 : decode cX5_hasMakerOf 19 = .ok (.if_icmp .ne 29, 3) := by decide +kernel
theorem dX5_hasMakerOf_22 : decode cX5_hasMakerOf 22 = .ok (.aload_n 0, 1) := by decide +kernel
theorem dX5_hasMakerOf_23 : decode cX5_hasMakerOf 23 = .ok (.getfield 30, 3) := by decide +kernel
theorem dX5_hasMakerOf_26 : decode cX5_hasMakerOf 26 = .ok (.aload_n 1, 1) := by decide +kernel
theorem dX5_hasMakerOf_27 : decode cX5_hasMakerOf 27 = .ok (.getfield 30, 3) := by decide +kernel
theorem dX5_hasMakerOf_30 : decode cX5_hasMakerOf 30 = .ok (.if_icmp .ne 18, 3) := by decide +kernel
theorem dX5_hasMakerOf_33 : decode cX5_hasMakerOf 33 = .ok (.aload_n 0, 1) := by decide +kernel
theorem dX5_hasMakerOf_34 : decode cX5_hasMakerOf 34 = .ok (.getfield 33, 3) := by decide +kernel
theorem dX5_hasMakerOf_37 : decode cX5_hasMakerOf 37 = .ok (.aload_n 1, 1) := by decide +kernel
theorem dX5_hasMakerOf_38 : decode cX5_hasMakerOf 38 = .ok (.getfield 33, 3) := by decide +kernel
theorem dX5_hasMakerOf_41 : decode cX5_hasMakerOf 41 = .ok (.if_icmp .ne 7, 3) := by decide +kernel
theorem dX5_hasMakerOf_44 : decode cX5_hasMakerOf 44 = .ok (.iconst 1, 1) := by decide +kernel
theorem dX5_hasMakerOf_45 : decode cX5_hasMakerOf 45 = .ok (.goto 4, 3) := by decide +kernel
theorem dX5_hasMakerOf_48 : decode cX5_hasMakerOf 48 = .ok (.iconst 0, 1) := by decide +kernel
theorem dX5_hasMakerOf_49 : decode cX5_hasMakerOf 49 = .ok (.ireturn, 1) := by decide +kernel
theorem dX6_init_0 : decode cX6_init 0 = .ok (.aload_n 0, 1) := by decide +kernel
theorem dX6_init_1 : decode cX6_init 1 = .ok (.invokespecial 3, 3) := by decide +kernel
theorem dX6_init_4 : decode cX6_init 4 = .ok (.aload_n 0, 1) := by decide +kernel
theorem dX6_init_5 : decode cX6_init 5 = .ok (.iconst (-1), 1) := by decide +kernel
theorem dX6_init_6 : decode cX6_init 6 = .ok (.putfield 9, 3) := by decide +kernel
theorem dX6_init_9 : decode cX6_init 9 = .ok (.aload_n 1, 1) := by decide +kernel
theorem dX6_init_10 : decode cX6_init 10 = .ok (.arraylength, 1) := by decide +kernel
theorem dX6_init_11 : decode cX6_init 11 = .ok (.bipush 20, 2) := by decide +kernel
theorem dX6_init_13 : decode cX6_init 13 = .ok (.invokestatic 15, 3) := by decide +kernel
theorem dX6_init_16 : decode cX6_init 16 = .ok (.istore_n 2, 1) := by decide +kernel
theorem dX6_init_17 : decode cX6_init 17 = .ok (.aload_n 0, 1) := by decide +kernel
theorem dX6_init_18 : decode cX6_init 18 = .ok (.aload_n 1, 1) := by decide +kernel
theorem dX6_init_19 : decode cX6_init 19 = .ok (.putfield 21, 3) := by decide +kernel
theorem dX6_init_22 : decode cX6_init 22 = .ok (.aload_n 0, 1) := by decide +kernel
theorem dX6_init_23 : decode cX6_init 23 = .ok (.iload_n 2, 1) := by decide +kernel
theorem dX6_init_24 : decode cX6_init 24 = .ok (.newarray .int, 2) := by decide +kernel
theorem dX6_init_26 : decode cX6_init 26 = .ok (.putfield 25, 3) := by decide +kernel
theorem dX6_init_29 : decode cX6_init 29 = .ok (.aload_n 0, 1) := by decide +kernel
theorem dX6_init_30 : decode cX6_init 30 = .ok (.iload_n 2, 1) := by decide +kernel
theorem dX6_init_31 : decode cX6_init 31 = .ok (.newarray .int, 2) := by decide +kernel
theorem dX6_init_33 : decode cX6_init 33 = .ok (.putfield 28, 3) := by decide +kernel
theorem dX6_init_36 : decode cX6_init 36 = .ok (.aload_n 0, 1) := by decide +kernel
theorem dX6_init_37 : decode cX6_init 37 = .ok (.iload_n 2, 1) := by decide +kernel
theorem dX6_init_38 : decode cX6_init 38 = .ok (.newarray .int, 2) := by decide +kernel
theorem dX6_init_40 : decode cX6_init 40 = .ok (.putfield 31, 3) := by decide +kernel
theorem dX6_init_43 : decode cX6_init 43 = .ok (.return_, 1) := by decide +kernel
theorem dX6_readItems_0 : decode cX6_readItems 0 = .ok (.iconst 0, 1) := by decide +kernel
theorem dX6_readItems_1 : decode cX6_readItems 1 = .ok (.istore_n 1, 1) := by decide +kernel
theorem dX6_readItems_2 : decode cX6_readItems 2 = .ok (.iconst 0, 1) := by decide +kernel
theorem dX6_readItems_3 : decode cX6_readItems 3 = .ok (.istore_n 2, 1) := by decide +kernel
theorem dX6_readItems_4 : decode cX6_readItems 4 = .ok (.iload_n 2, 1) := by decide +kernel
theorem dX6_readItems_5 : decode cX6_readItems 5 = .ok (.bipush 20, 2) := by decide +kernel
theorem dX6_readItems_7 : decode cX6_readItems 7 = .ok (.if_icmp .gt 50, 3) := by decide +kernel
theorem dX6_readItems_10 : decode cX6_readItems 10 = .ok (.aload_n 0, 1) := by decide +kernel
theorem dX6_readItems_11 : decode cX6_readItems 11 = .ok (.getfield 34, 3) := by decide +kernel
theorem dX6_readItems_14 : decode cX6_readItems 14 = .ok (.ifCond .ne 43, 3) := by decide +kernel
theorem dX6_readItems_17 : decode cX6_readItems 17 = .ok (.iload_n 1, 1) := by decide +kernel
theorem dX6_readItems_18 : decode cX6_readItems 18 = .ok (.aload_n 0, 1) := by decide +kernel
theorem dX6_readItems_19 : decode cX6_readItems 19 = .ok (.getfield 21, 3) := by decide +kernel
theorem dX6_readItems_22 : decode cX6_readItems 22 = .ok (.arraylength, 1) := by decide +kernel
theorem dX6_readItems_23 : decode cX6_readItems 23 = .ok (.if_icmp .ge 34, 3) := by decide +kernel
theorem dX6_readItems_26 : decode cX6_readItems 26 = .ok (.aload_n 0, 1) := by decide +kernel
theorem dX6_readItems_27 : decode cX6_readItems 27 = .ok (.getfield 21, 3) := by decide +kernel
theorem dX6_readItems_30 : decode cX6_readItems 30 = .ok (.iload_n 1, 1) := by decide +kernel
theorem dX6_readItems_31 : decode cX6_readItems 31 = .ok (.iaload, 1) := by decide +kernel
theorem dX6_readItems_32 : decode cX6_readItems 32 = .ok (.bipush 60, 2) := by decide +kernel
theorem dX6_readItems_34 : decode cX6_readItems 34 = .ok (.if_icmp .ne 11, 3) := by decide +kernel
theorem dX6_readItems_37 : decode cX6_readItems 37 = .ok (.aload_n 0, 1) := by decide +kernel
theorem dX6_readItems_38 : decode cX6_readItems 38 = .ok (.iload_n 1, 1) := by decide +kernel
theorem dX6_readItems_39 : decode cX6_readItems 39 = .ok (.invokevirtual 37, 3) := by decide +kernel
theorem dX6_readItems_42 : decode cX6_readItems 42 = .ok (.goto 8, 3) := by decide +kernel
theorem dX6_readItems_45 : decode cX6_readItems 45 = .ok (.aload_n 0, 1) := by decide +kernel
theorem dX6_readItems_46 : decode cX6_readItems 46 = .ok (.iload_n 1, 1) := by decide +kernel
theorem dX6_readItems_47 : decode cX6_readItems 47 = .ok (.invokevirtual 41, 3) := by decide +kernel
theorem dX6_readItems_50 : decode cX6_readItems 50 = .ok (.istore_n 1, 1) := by decide +kernel
theorem dX6_readItems_51 : decode cX6_readItems 51 = .ok (.iinc 2 1, 3) := by decide +kernel
theorem dX6_readItems_54 : decode cX6_readItems 54 = .ok (.goto (-50), 3) := by decide +kernel
theorem dX6_readItems_57 : decode cX6_readItems 57 = .ok (.aload_n 0, 1) := by decide +kernel
theorem dX6_readItems_58 : decode cX6_readItems 58 = .ok (.getfield 34, 3) := by decide +kernel
theorem dX6_readItems_61 : decode cX6_readItems 61 = .ok (.ifCond .ne 20, 3) := by decide +kernel
theorem dX6_readItems_64 : decode cX6_readItems 64 = .ok (.aload_n 0, 1) := by decide +kernel
theorem dX6_readItems_65 : decode cX6_readItems 65 = .ok (.getfield 44, 3) := by decide +kernel
theorem dX6_readItems_68 : decode cX6_readItems 68 = .ok (.ifCond .eq 13, 3) := by decide +kernel
theorem dX6_readItems_71 : decode cX6_readItems 71 = .ok (.aload_n 0, 1) := by decide +kernel
theorem dX6_readItems_72 : decode cX6_readItems 72 = .ok (.iconst 4, 1) := by decide +kernel
theorem dX6_readItems_73 : decode cX6_readItems 73 = .ok (.aload_n 0, 1) := by decide +kernel
theorem dX6_readItems_74 : decode cX6_readItems 74 = .ok (.getfield 21, 3) := by decide +kernel
theorem dX6_readItems_77 : decode cX6_readItems 77 = .ok (.arraylength, 1) := by decide +kernel
theorem dX6_readItems_78 : decode cX6_readItems 78 = .ok (.invokevirtual 48, 3) := by decide +kernel
theorem dX6_readItems_81 : decode cX6_readItems 81 = .ok (.return_, 1) := by decide +kernel
theorem dX6_readWord_0 : decode cX6_readWord 0 = .ok (.iload_n 1, 1) := by decide +kernel
theorem dX6_readWord_1 : decode cX6_readWord 1 = .ok (.istore_n 2, 1) := by decide +kernel
theorem dX6_readWord_2 : decode cX6_readWord 2 = .ok (.iload_n 2, 1) := by decide +kernel
theorem dX6_readWord_3 : decode cX6_readWord 3 = .ok (.aload_n 0, 1) := by decide +kernel
theorem dX6_readWord_4 : decode cX6_readWord 4 = .ok (.getfield 21, 3) := by decide +kernel
theorem dX6_readWord_7 : decode cX6_readWord 7 = .ok (.arraylength, 1) := by decide +kernel
theorem dX6_readWord_8 : decode cX6_readWord 8 = .ok (.if_icmp .ge 42, 3) := by decide +kernel
theorem dX6_readWord_11 : decode cX6_readWord 11 = .ok (.aload_n 0, 1) := by decide +kernel
theorem dX6_readWord_12 : decode cX6_readWord 12 = .ok (.getfield 21, 3) := by decide +kernel
theorem dX6_readWord_15 : decode cX6_readWord 15 = .ok (.iload_n 2, 1) := by decide +kernel
theorem dX6_readWord_16 : decode cX6_readWord 16 = .ok (.iaload, 1) := by decide +kernel
theorem dX6_readWord_17 : decode cX6_readWord 17 = .ok (.bipush 32, 2) := by decide +kernel
theorem dX6_readWord_19 : decode cX6_readWord 19 = .ok (.if_icmp .lt 31, 3) := by decide +kernel
theorem dX6_readWord_22 : decode cX6_readWord 22 = .ok (.aload_n 0, 1) := by decide +kernel
theorem dX6_readWord_23 : decode cX6_readWord 23 = .ok (.getfield 21, 3) := by decide +kernel
theorem dX6_readWord_26 : decode cX6_readWord 26 = .ok (.iload_n 2, 1) := by decide +kernel
theorem dX6_readWord_27 : decode cX6_readWord 27 = .ok (.iaload, 1) := by decide +kernel
theorem dX6_readWord_28 : decode cX6_readWord 28 = .ok (.bipush 126, 2) := by decide +kernel
theorem dX6_readWord_30 : decode cX6_readWord 30 = .ok (.if_icmp .gt 20, 3) := by decide +kernel
theorem dX6_readWord_33 : decode cX6_readWord 33 = .ok (.aload_n 0, 1) := by decide +kernel
theorem dX6_readWord_34 : decode cX6_readWord 34 = .ok (.getfield 21, 3) := by decide +kernel
theorem dX6_readWord_37 : decode cX6_readWord 37 = .ok (.iload_n 2, 1) := by decide +kernel
theorem dX6_readWord_38 : decode cX6_readWord 38 = .ok (.iaload, 1) := by decide +kernel
theorem dX6_readWord_39 : decode cX6_readWord 39 = .ok (.bipush 60, 2) := by decide +kernel
theorem dX6_readWord_41 : decode cX6_readWord 41 = .ok (.if_icmp .eq 9, 3) := by decide +kernel
theorem dX6_readWord_44 : decode cX6_readWord 44 = .ok (.iinc 2 1, 3) := by decide +kernel
theorem dX6_readWord_47 : decode cX6_readWord 47 = .ok (.goto (-45), 3) := by decide +kernel
theorem dX6_readWord_50 : decode cX6_readWord 50 = .ok (.iload_n 2, 1) := by decide +kernel
theorem dX6_readWord_51 : decode cX6_readWord 51 = .ok (.iload_n 1, 1) := by decide +kernel
theorem dX6_readWord_52 : decode cX6_readWord 52 = .ok (.if_icmp .le 13, 3) := by decide +kernel
theorem dX6_readWord_55 : decode cX6_readWord 55 = .ok (.aload_n 0, 1) := by decide +kernel
theorem dX6_readWord_56 : decode cX6_readWord 56 = .ok (.iload_n 1, 1) := by decide +kernel
theorem dX6_readWord_57 : decode cX6_readWord 57 = .ok (.iconst 0, 1) := by decide +kernel
theorem dX6_readWord_58 : decode cX6_readWord 58 = .ok (.iload_n 1, 1) := by decide +kernel
theorem dX6_readWord_59 : decode cX6_readWord 59 = .ok (.iload_n 2, 1) := by decide +kernel
theorem dX6_readWord_60 : decode cX6_readWord 60 = .ok (.iload_n 1, 1) := by decide +kernel
theorem dX6_readWord_61 : decode cX6_readWord 61 = .ok (.isub, 1) := by decide +kernel
theorem dX6_readWord_62 : decode cX6_readWord 62 = .ok (.invokevirtual 52, 3) := by decide +kernel
theorem dX6_readWord_65 : decode cX6_readWord 65 = .ok (.iload_n 2, 1) := by decide +kernel
theorem dX6_readWord_66 : decode cX6_readWord 66 = .ok (.aload_n 0, 1) := by decide +kernel
theorem dX6_readWord_67 : decode cX6_readWord 67 = .ok (.getfield 21, 3) := by decide +kernel
theorem dX6_readWord_70 : decode cX6_readWord 70 = .ok (.arraylength, 1) := by decide +kernel
theorem dX6_readWord_71 : decode cX6_readWord 71 = .ok (.if_icmp .ge 20, 3) := by decide +kernel
theorem dX6_readWord_74 : decode cX6_readWord 74 = .ok (.aload_n 0, 1) := by decide +kernel
theorem dX6_readWord_75 : decode cX6_readWord 75 = .ok (.getfield 21, 3) := by decide +kernel
theorem dX6_readWord_78 : decode cX6_readWord 78 = .ok (.iload_n 2, 1) := by decide +kernel
theorem dX6_readWord_79 : decode cX6_readWord 79 = .ok (.iaload, 1) := by decide +kernel
theorem dX6_readWord_80 : decode cX6_readWord 80 = .ok (.bipush 60, 2) := by decide +kernel
theorem dX6_readWord_82 : decode cX6_readWord 82 = .ok (.if_icmp .eq 9, 3) := by decide +kernel
theorem dX6_readWord_85 : decode cX6_readWord 85 = .ok (.aload_n 0, 1) := by decide +kernel
theorem dX6_readWord_86 : decode cX6_readWord 86 = .ok (.iconst 1, 1) := by decide +kernel
theorem dX6_readWord_87 : decode cX6_readWord 87 = .ok (.iload_n 2, 1) := by decide +kernel
theorem dX6_readWord_88 : decode cX6_readWord 88 = .ok (.invokevirtual 48, 3) := by decide +kernel
theorem dX6_readWord_91 : decode cX6_readWord 91 = .ok (.iload_n 2, 1) := by decide +kernel
theorem dX6_readWord_92 : decode cX6_readWord 92 = .ok (.ireturn, 1) := by decide +kernel
theorem dX6_readMark_0 : decode cX6_readMark 0 = .ok (.aload_n 0, 1) := by decide +kernel
theorem dX6_readMark_1 : decode cX6_readMark 1 = .ok (.iload_n 1, 1) := by decide +kernel
theorem dX6_readMark_2 : decode cX6_readMark 2 = .ok (.invokevirtual 56, 3) := by decide +kernel
theorem dX6_readMark_5 : decode cX6_readMark 5 = .ok (.istore_n 2, 1) := by decide +kernel
theorem dX6_readMark_6 : decode cX6_readMark 6 = .ok (.iload_n 2, 1) := by decide +kernel
theorem dX6_readMark_7 : decode cX6_readMark 7 = .ok (.iconst (-1), 1) := by decide +kernel
theorem dX6_readMark_8 : decode cX6_readMark 8 = .ok (.if_icmp .ne 12, 3) := by decide +kernel
theorem dX6_readMark_11 : decode cX6_readMark 11 = .ok (.aload_n 0, 1) := by decide +kernel
theorem dX6_readMark_12 : decode cX6_readMark 12 = .ok (.iconst 2, 1) := by decide +kernel
theorem dX6_readMark_13 : decode cX6_readMark 13 = .ok (.iload_n 1, 1) := by decide +kernel
theorem dX6_readMark_14 : decode cX6_readMark 14 = .ok (.invokevirtual 48, 3) := by decide +kernel
theorem dX6_readMark_17 : decode cX6_readMark 17 = .ok (.goto 44, 3) := by decide +kernel
theorem dX6_readMark_20 : decode cX6_readMark 20 = .ok (.iload_n 2, 1) := by decide +kernel
theorem dX6_readMark_21 : decode cX6_readMark 21 = .ok (.bipush 6, 2) := by decide +kernel
theorem dX6_readMark_23 : decode cX6_readMark 23 = .ok (.if_icmp .ne 10, 3) := by decide +kernel
theorem dX6_readMark_26 : decode cX6_readMark 26 = .ok (.aload_n 0, 1) := by decide +kernel
theorem dX6_readMark_27 : decode cX6_readMark 27 = .ok (.getfield 44, 3) := by decide +kernel
theorem dX6_readMark_30 : decode cX6_readMark 30 = .ok (.ifCond .ne 16, 3) := by decide +kernel
theorem dX6_readMark_33 : decode cX6_readMark 33 = .ok (.iload_n 2, 1) := by decide +kernel
theorem dX6_readMark_34 : decode cX6_readMark 34 = .ok (.bipush 7, 2) := by decide +kernel
theorem dX6_readMark_36 : decode cX6_readMark 36 = .ok (.if_icmp .ne 19, 3) := by decide +kernel
theorem dX6_readMark_39 : decode cX6_readMark 39 = .ok (.aload_n 0, 1) := by decide +kernel
theorem dX6_readMark_40 : decode cX6_readMark 40 = .ok (.getfield 44, 3) := by decide +kernel
theorem dX6_readMark_43 : decode cX6_readMark 43 = .ok (.ifCond .ne 12, 3) := by decide +kernel
theorem dX6_readMark_46 : decode cX6_readMark 46 = .ok (.aload_n 0, 1) := by decide +kernel
theorem dX6_readMark_47 : decode cX6_readMark 47 = .ok (.iconst 3, 1) := by decide +kernel
theorem dX6_readMark_48 : decode cX6_readMark 48 = .ok (.iload_n 1, 1) := by decide +kernel
theorem dX6_readMark_49 : decode cX6_readMark 49 = .ok (.invokevirtual 48, 3) := by decide +kernel
theorem dX6_readMark_52 : decode cX6_readMark 52 = .ok (.goto 9, 3) := by decide +kernel
theorem dX6_readMark_55 : decode cX6_readMark 55 = .ok (.aload_n 0, 1) := by decide +kernel
theorem dX6_readMark_56 : decode cX6_readMark 56 = .ok (.iload_n 1, 1) := by decide +kernel
theorem dX6_readMark_57 : decode cX6_readMark 57 = .ok (.iload_n 2, 1) := by decide +kernel
theorem dX6_readMark_58 : decode cX6_readMark 58 = .ok (.invokevirtual 59, 3) := by decide +kernel
theorem dX6_readMark_61 : decode cX6_readMark 61 = .ok (.iload_n 2, 1) := by decide +kernel
theorem dX6_readMark_62 : decode cX6_readMark 62 = .ok (.bipush 6, 2) := by decide +kernel
theorem dX6_readMark_64 : decode cX6_readMark 64 = .ok (.if_icmp .eq 9, 3) := by decide +kernel
theorem dX6_readMark_67 : decode cX6_readMark 67 = .ok (.iload_n 2, 1) := by decide +kernel
theorem dX6_readMark_68 : decode cX6_readMark 68 = .ok (.bipush 7, 2) := by decide +kernel
theorem dX6_readMark_70 : decode cX6_readMark 70 = .ok (.if_icmp .ne 18, 3) := by decide +kernel
theorem dX6_readMark_73 : decode cX6_readMark 73 = .ok (.aload_n 0, 1) := by decide +kernel
theorem dX6_readMark_74 : decode cX6_readMark 74 = .ok (.iload_n 2, 1) := by decide +kernel
theorem dX6_readMark_75 : decode cX6_readMark 75 = .ok (.bipush 6, 2) := by decide +kernel
theorem dX6_readMark_77 : decode cX6_readMark 77 = .ok (.if_icmp .ne 7, 3) := by decide +kernel
theorem dX6_readMark_80 : decode cX6_readMark 80 = .ok (.iconst 1, 1) := by decide +kernel
theorem dX6_readMark_81 : decode cX6_readMark 81 = .ok (.goto 4, 3) := by decide +kernel
theorem dX6_readMark_84 : decode cX6_readMark 84 = .ok (.iconst 0, 1) := by decide +kernel
theorem dX6_readMark_85 : decode cX6_readMark 85 = .ok (.putfield 44, 3) := by decide +kernel
theorem dX6_readMark_88 : decode cX6_readMark 88 = .ok (.iload_n 1, 1) := by decide +kernel
theorem dX6_readMark_89 : decode cX6_readMark 89 = .ok (.iload_n 2, 1) := by decide +kernel
theorem dX6_readMark_90 : decode cX6_readMark 90 = .ok (.iconst 3, 1) := by decide +kernel
theorem dX6_readMark_91 : decode cX6_readMark 91 = .ok (.if_icmp .ne 7, 3) := by decide +kernel
theorem dX6_readMark_94 : decode cX6_readMark 94 = .ok (.iconst 5, 1) := by decide +kernel
theorem dX6_readMark_95 : decode cX6_readMark 95 = .ok (.goto 14, 3) := by decide +kernel
theorem dX6_readMark_98 : decode cX6_readMark 98 = .ok (.iload_n 2, 1) := by decide +kernel
end
section
theorem dX6_readMark_99 : decode cX6_readMark 99 = .ok (.bipush 6, 2) := by decide +kernel
theorem dX6_readMark_101 : decode cX6_readMark 101 = .ok (.if_icmp .ne 7, 3) := by decide +kernel
theorem dX6_readMark_104 : decode cX6_readMark 104 = .ok (.iconst 4, 1) := by decide +kernel
theorem dX6_readMark_105 : decode cX6_readMark 105 = .ok (.goto 4, 3) := by decide +kernel
theorem dX6_readMark_108 : decode cX6_readMark 108 = .ok (.iconst 3, 1) := by decide +kernel
theorem dX6_readMark_109 : decode cX6_readMark 109 = .ok (.iadd, 1) := by decide +kernel
theorem dX6_readMark_110 : decode cX6_readMark 110 = .ok (.ireturn, 1) := by decide +kernel
theorem dX6_addMark_0 : decode cX6_addMark 0 = .ok (.iload_n 2, 1) := by decide +kernel
theorem dX6_addMark_1 : decode cX6_addMark 1 = .ok (.tableswitch 145 0 6 #[43, 145, 56, 76, 145, 105, 125], 43) := by decide +kernel
theorem dX6_addMark_44 : decode cX6_addMark 44 = .ok (.aload_n 0, 1) := by decide +kernel
theorem dX6_addMark_45 : decode cX6_addMark 45 = .ok (.iload_n 1, 1) := by decide +kernel
theorem dX6_addMark_46 : decode cX6_addMark 46 = .ok (.iload_n 2, 1) := by decide +kernel
theorem dX6_addMark_47 : decode cX6_addMark 47 = .ok (.iload_n 1, 1) := by decide +kernel
theorem dX6_addMark_48 : decode cX6_addMark 48 = .ok (.iconst 1, 1) := by decide +kernel
theorem dX6_addMark_49 : decode cX6_addMark 49 = .ok (.iadd, 1) := by decide +kernel
theorem dX6_addMark_50 : decode cX6_addMark 50 = .ok (.iconst 1, 1) := by decide +kernel
theorem dX6_addMark_51 : decode cX6_addMark 51 = .ok (.invokevirtual 52, 3) := by decide +kernel
theorem dX6_addMark_54 : decode cX6_addMark 54 = .ok (.goto 100, 3) := by decide +kernel
theorem dX6_addMark_57 : decode cX6_addMark 57 = .ok (.aload_n 0, 1) := by decide +kernel
theorem dX6_addMark_58 : decode cX6_addMark 58 = .ok (.iload_n 1, 1) := by decide +kernel
theorem dX6_addMark_59 : decode cX6_addMark 59 = .ok (.iload_n 2, 1) := by decide +kernel
theorem dX6_addMark_60 : decode cX6_addMark 60 = .ok (.aload_n 0, 1) := by decide +kernel
theorem dX6_addMark_61 : decode cX6_addMark 61 = .ok (.iload_n 1, 1) := by decide +kernel
theorem dX6_addMark_62 : decode cX6_addMark 62 = .ok (.iconst 1, 1) := by decide +kernel
theorem dX6_addMark_63 : decode cX6_addMark 63 = .ok (.iadd, 1) := by decide +kernel
theorem dX6_addMark_64 : decode cX6_addMark 64 = .ok (.invokevirtual 62, 3) := by decide +kernel
theorem dX6_addMark_67 : decode cX6_addMark 67 = .ok (.bipush 48, 2) := by decide +kernel
theorem dX6_addMark_69 : decode cX6_addMark 69 = .ok (.isub, 1) := by decide +kernel
theorem dX6_addMark_70 : decode cX6_addMark 70 = .ok (.iconst 0, 1) := by decide +kernel
theorem dX6_addMark_71 : decode cX6_addMark 71 = .ok (.invokevirtual 52, 3) := by decide +kernel
theorem dX6_addMark_74 : decode cX6_addMark 74 = .ok (.goto 80, 3) := by decide +kernel
theorem dX6_addMark_77 : decode cX6_addMark 77 = .ok (.aload_n 0, 1) := by decide +kernel
theorem dX6_addMark_78 : decode cX6_addMark 78 = .ok (.iload_n 1, 1) := by decide +kernel
theorem dX6_addMark_79 : decode cX6_addMark 79 = .ok (.iload_n 2, 1) := by decide +kernel
theorem dX6_addMark_80 : decode cX6_addMark 80 = .ok (.aload_n 0, 1) := by decide +kernel
theorem dX6_addMark_81 : decode cX6_addMark 81 = .ok (.iload_n 1, 1) := by decide +kernel
theorem dX6_addMark_82 : decode cX6_addMark 82 = .ok (.iconst 2, 1) := by decide +kernel
theorem dX6_addMark_83 : decode cX6_addMark 83 = .ok (.iadd, 1) := by decide +kernel
theorem dX6_addMark_84 : decode cX6_addMark 84 = .ok (.invokevirtual 62, 3) := by decide +kernel
theorem dX6_addMark_87 : decode cX6_addMark 87 = .ok (.bipush 48, 2) := by decide +kernel
theorem dX6_addMark_89 : decode cX6_addMark 89 = .ok (.isub, 1) := by decide +kernel
theorem dX6_addMark_90 : decode cX6_addMark 90 = .ok (.aload_n 0, 1) := by decide +kernel
theorem dX6_addMark_91 : decode cX6_addMark 91 = .ok (.iload_n 1, 1) := by decide +kernel
theorem dX6_addMark_92 : decode cX6_addMark 92 = .ok (.iconst 3, 1) := by decide +kernel
theorem dX6_addMark_93 : decode cX6_addMark 93 = .ok (.iadd, 1) := by decide +kernel
theorem dX6_addMark_94 : decode cX6_addMark 94 = .ok (.invokevirtual 62, 3) := by decide +kernel
theorem dX6_addMark_97 : decode cX6_addMark 97 = .ok (.bipush 48, 2) := by decide +kernel
theorem dX6_addMark_99 : decode cX6_addMark 99 = .ok (.isub, 1) := by decide +kernel
theorem dX6_addMark_100 : decode cX6_addMark 100 = .ok (.invokevirtual 52, 3) := by decide +kernel
theorem dX6_addMark_103 : decode cX6_addMark 103 = .ok (.goto 51, 3) := by decide +kernel
theorem dX6_addMark_106 : decode cX6_addMark 106 = .ok (.aload_n 0, 1) := by decide +kernel
theorem dX6_addMark_107 : decode cX6_addMark 107 = .ok (.iload_n 1, 1) := by decide +kernel
theorem dX6_addMark_108 : decode cX6_addMark 108 = .ok (.iload_n 2, 1) := by decide +kernel
theorem dX6_addMark_109 : decode cX6_addMark 109 = .ok (.aload_n 0, 1) := by decide +kernel
theorem dX6_addMark_110 : decode cX6_addMark 110 = .ok (.iload_n 1, 1) := by decide +kernel
theorem dX6_addMark_111 : decode cX6_addMark 111 = .ok (.iconst 1, 1) := by decide +kernel
theorem dX6_addMark_112 : decode cX6_addMark 112 = .ok (.iadd, 1) := by decide +kernel
theorem dX6_addMark_113 : decode cX6_addMark 113 = .ok (.invokevirtual 62, 3) := by decide +kernel
theorem dX6_addMark_116 : decode cX6_addMark 116 = .ok (.bipush 97, 2) := by decide +kernel
theorem dX6_addMark_118 : decode cX6_addMark 118 = .ok (.isub, 1) := by decide +kernel
theorem dX6_addMark_119 : decode cX6_addMark 119 = .ok (.iconst 0, 1) := by decide +kernel
theorem dX6_addMark_120 : decode cX6_addMark 120 = .ok (.invokevirtual 52, 3) := by decide +kernel
theorem dX6_addMark_123 : decode cX6_addMark 123 = .ok (.goto 31, 3) := by decide +kernel
theorem dX6_addMark_126 : decode cX6_addMark 126 = .ok (.aload_n 0, 1) := by decide +kernel
theorem dX6_addMark_127 : decode cX6_addMark 127 = .ok (.iload_n 1, 1) := by decide +kernel
theorem dX6_addMark_128 : decode cX6_addMark 128 = .ok (.iload_n 2, 1) := by decide +kernel
theorem dX6_addMark_129 : decode cX6_addMark 129 = .ok (.aload_n 0, 1) := by decide +kernel
theorem dX6_addMark_130 : decode cX6_addMark 130 = .ok (.iload_n 1, 1) := by decide +kernel
theorem dX6_addMark_131 : decode cX6_addMark 131 = .ok (.iconst 2, 1) := by decide +kernel
theorem dX6_addMark_132 : decode cX6_addMark 132 = .ok (.iadd, 1) := by decide +kernel
theorem dX6_addMark_133 : decode cX6_addMark 133 = .ok (.invokevirtual 62, 3) := by decide +kernel
theorem dX6_addMark_136 : decode cX6_addMark 136 = .ok (.bipush 48, 2) := by decide +kernel
theorem dX6_addMark_138 : decode cX6_addMark 138 = .ok (.isub, 1) := by decide +kernel
theorem dX6_addMark_139 : decode cX6_addMark 139 = .ok (.iconst 0, 1) := by decide +kernel
theorem dX6_addMark_140 : decode cX6_addMark 140 = .ok (.invokevirtual 52, 3) := by decide +kernel
theorem dX6_addMark_143 : decode cX6_addMark 143 = .ok (.goto 11, 3) := by decide +kernel
theorem dX6_addMark_146 : decode cX6_addMark 146 = .ok (.aload_n 0, 1) := by decide +kernel
theorem dX6_addMark_147 : decode cX6_addMark 147 = .ok (.iload_n 1, 1) := by decide +kernel
theorem dX6_addMark_148 : decode cX6_addMark 148 = .ok (.iload_n 2, 1) := by decide +kernel
theorem dX6_addMark_149 : decode cX6_addMark 149 = .ok (.iconst 0, 1) := by decide +kernel
theorem dX6_addMark_150 : decode cX6_addMark 150 = .ok (.iconst 0, 1) := by decide +kernel
theorem dX6_addMark_151 : decode cX6_addMark 151 = .ok (.invokevirtual 52, 3) := by decide +kernel
theorem dX6_addMark_154 : decode cX6_addMark 154 = .ok (.return_, 1) := by decide +kernel
theorem dX6_add_0 : decode cX6_add 0 = .ok (.aload_n 0, 1) := by decide +kernel
theorem dX6_add_1 : decode cX6_add 1 = .ok (.getfield 65, 3) := by decide +kernel
theorem dX6_add_4 : decode cX6_add 4 = .ok (.aload_n 0, 1) := by decide +kernel
theorem dX6_add_5 : decode cX6_add 5 = .ok (.getfield 25, 3) := by decide +kernel
theorem dX6_add_8 : decode cX6_add 8 = .ok (.arraylength, 1) := by decide +kernel
theorem dX6_add_9 : decode cX6_add 9 = .ok (.if_icmp .lt 10, 3) := by decide +kernel
theorem dX6_add_12 : decode cX6_add 12 = .ok (.aload_n 0, 1) := by decide +kernel
theorem dX6_add_13 : decode cX6_add 13 = .ok (.iconst 5, 1) := by decide +kernel
theorem dX6_add_14 : decode cX6_add 14 = .ok (.iload_n 1, 1) := by decide +kernel
theorem dX6_add_15 : decode cX6_add 15 = .ok (.invokevirtual 48, 3) := by decide +kernel
theorem dX6_add_18 : decode cX6_add 18 = .ok (.return_, 1) := by decide +kernel
theorem dX6_add_19 : decode cX6_add 19 = .ok (.aload_n 0, 1) := by decide +kernel
theorem dX6_add_20 : decode cX6_add 20 = .ok (.getfield 25, 3) := by decide +kernel
theorem dX6_add_23 : decode cX6_add 23 = .ok (.aload_n 0, 1) := by decide +kernel
theorem dX6_add_24 : decode cX6_add 24 = .ok (.getfield 65, 3) := by decide +kernel
theorem dX6_add_27 : decode cX6_add 27 = .ok (.iload_n 2, 1) := by decide +kernel
theorem dX6_add_28 : decode cX6_add 28 = .ok (.iastore, 1) := by decide +kernel
theorem dX6_add_29 : decode cX6_add 29 = .ok (.aload_n 0, 1) := by decide +kernel
theorem dX6_add_30 : decode cX6_add 30 = .ok (.getfield 28, 3) := by decide +kernel
theorem dX6_add_33 : decode cX6_add 33 = .ok (.aload_n 0, 1) := by decide +kernel
theorem dX6_add_34 : decode cX6_add 34 = .ok (.getfield 65, 3) := by decide +kernel
theorem dX6_add_37 : decode cX6_add 37 = .ok (.iload_n 3, 1) := by decide +kernel
theorem dX6_add_38 : decode cX6_add 38 = .ok (.iastore, 1) := by decide +kernel
theorem dX6_add_39 : decode cX6_add 39 = .ok (.aload_n 0, 1) := by decide +kernel
theorem dX6_add_40 : decode cX6_add 40 = .ok (.getfield 31, 3) := by decide +kernel
theorem dX6_add_43 : decode cX6_add 43 = .ok (.aload_n 0, 1) := by decide +kernel
theorem dX6_add_44 : decode cX6_add 44 = .ok (.getfield 65, 3) := by decide +kernel
theorem dX6_add_47 : decode cX6_add 47 = .ok (.iload 4, 2) := by decide +kernel
theorem dX6_add_49 : decode cX6_add 49 = .ok (.iastore, 1) := by decide +kernel
theorem dX6_add_50 : decode cX6_add 50 = .ok (.aload_n 0, 1) := by decide +kernel
theorem dX6_add_51 : decode cX6_add 51 = .ok (.dup, 1) := by decide +kernel
theorem dX6_add_52 : decode cX6_add 52 = .ok (.getfield 65, 3) := by decide +kernel
theorem dX6_add_55 : decode cX6_add 55 = .ok (.iconst 1, 1) := by decide +kernel
theorem dX6_add_56 : decode cX6_add 56 = .ok (.iadd, 1) := by decide +kernel
theorem dX6_add_57 : decode cX6_add 57 = .ok (.putfield 65, 3) := by decide +kernel
theorem dX6_add_60 : decode cX6_add 60 = .ok (.return_, 1) := by decide +kernel
theorem dX6_sortOfMark_0 : decode cX6_sortOfMark 0 = .ok (.aload_n 0, 1) := by decide +kernel
theorem dX6_sortOfMark_1 : decode cX6_sortOfMark 1 = .ok (.iload_n 1, 1) := by decide +kernel
theorem dX6_sortOfMark_2 : decode cX6_sortOfMark 2 = .ok (.iconst 1, 1) := by decide +kernel
theorem dX6_sortOfMark_3 : decode cX6_sortOfMark 3 = .ok (.iadd, 1) := by decide +kernel
theorem dX6_sortOfMark_4 : decode cX6_sortOfMark 4 = .ok (.invokevirtual 62, 3) := by decide +kernel
theorem dX6_sortOfMark_7 : decode cX6_sortOfMark 7 = .ok (.istore_n 2, 1) := by decide +kernel
theorem dX6_sortOfMark_8 : decode cX6_sortOfMark 8 = .ok (.iload_n 2, 1) := by decide +kernel
theorem dX6_sortOfMark_9 : decode cX6_sortOfMark 9 = .ok (.bipush 63, 2) := by decide +kernel
theorem dX6_sortOfMark_11 : decode cX6_sortOfMark 11 = .ok (.if_icmp .ne 32, 3) := by decide +kernel
theorem dX6_sortOfMark_14 : decode cX6_sortOfMark 14 = .ok (.aload_n 0, 1) := by decide +kernel
theorem dX6_sortOfMark_15 : decode cX6_sortOfMark 15 = .ok (.iload_n 1, 1) := by decide +kernel
theorem dX6_sortOfMark_16 : decode cX6_sortOfMark 16 = .ok (.iconst 2, 1) := by decide +kernel
theorem dX6_sortOfMark_17 : decode cX6_sortOfMark 17 = .ok (.iadd, 1) := by decide +kernel
theorem dX6_sortOfMark_18 : decode cX6_sortOfMark 18 = .ok (.invokevirtual 68, 3) := by decide +kernel
theorem dX6_sortOfMark_21 : decode cX6_sortOfMark 21 = .ok (.ifCond .eq 20, 3) := by decide +kernel
theorem dX6_sortOfMark_24 : decode cX6_sortOfMark 24 = .ok (.aload_n 0, 1) := by decide +kernel
theorem dX6_sortOfMark_25 : decode cX6_sortOfMark 25 = .ok (.iload_n 1, 1) := by decide +kernel
theorem dX6_sortOfMark_26 : decode cX6_sortOfMark 26 = .ok (.iconst 3, 1) := by decide +kernel
theorem dX6_sortOfMark_27 : decode cX6_sortOfMark 27 = .ok (.iadd, 1) := by decide +kernel
theorem dX6_sortOfMark_28 : decode cX6_sortOfMark 28 = .ok (.invokevirtual 62, 3) := by decide +kernel
theorem dX6_sortOfMark_31 : decode cX6_sortOfMark 31 = .ok (.bipush 62, 2) := by decide +kernel
theorem dX6_sortOfMark_33 : decode cX6_sortOfMark 33 = .ok (.if_icmp .ne 8, 3) := by decide +kernel
theorem dX6_sortOfMark_36 : decode cX6_sortOfMark 36 = .ok (.bipush 6, 2) := by decide +kernel
theorem dX6_sortOfMark_38 : decode cX6_sortOfMark 38 = .ok (.goto 4, 3) := by decide +kernel
theorem dX6_sortOfMark_41 : decode cX6_sortOfMark 41 = .ok (.iconst (-1), 1) := by decide +kernel
theorem dX6_sortOfMark_42 : decode cX6_sortOfMark 42 = .ok (.ireturn, 1) := by decide +kernel
theorem dX6_sortOfMark_43 : decode cX6_sortOfMark 43 = .ok (.iload_n 2, 1) := by decide +kernel
theorem dX6_sortOfMark_44 : decode cX6_sortOfMark 44 = .ok (.bipush 43, 2) := by decide +kernel
theorem dX6_sortOfMark_46 : decode cX6_sortOfMark 46 = .ok (.if_icmp .ne 41, 3) := by decide +kernel
theorem dX6_sortOfMark_49 : decode cX6_sortOfMark 49 = .ok (.aload_n 0, 1) := by decide +kernel
theorem dX6_sortOfMark_50 : decode cX6_sortOfMark 50 = .ok (.iload_n 1, 1) := by decide +kernel
theorem dX6_sortOfMark_51 : decode cX6_sortOfMark 51 = .ok (.iconst 2, 1) := by decide +kernel
theorem dX6_sortOfMark_52 : decode cX6_sortOfMark 52 = .ok (.iadd, 1) := by decide +kernel
theorem dX6_sortOfMark_53 : decode cX6_sortOfMark 53 = .ok (.invokevirtual 68, 3) := by decide +kernel
theorem dX6_sortOfMark_56 : decode cX6_sortOfMark 56 = .ok (.ifCond .eq 29, 3) := by decide +kernel
theorem dX6_sortOfMark_59 : decode cX6_sortOfMark 59 = .ok (.aload_n 0, 1) := by decide +kernel
theorem dX6_sortOfMark_60 : decode cX6_sortOfMark 60 = .ok (.iload_n 1, 1) := by decide +kernel
theorem dX6_sortOfMark_61 : decode cX6_sortOfMark 61 = .ok (.iconst 3, 1) := by decide +kernel
theorem dX6_sortOfMark_62 : decode cX6_sortOfMark 62 = .ok (.iadd, 1) := by decide +kernel
theorem dX6_sortOfMark_63 : decode cX6_sortOfMark 63 = .ok (.invokevirtual 68, 3) := by decide +kernel
theorem dX6_sortOfMark_66 : decode cX6_sortOfMark 66 = .ok (.ifCond .eq 19, 3) := by decide +kernel
theorem dX6_sortOfMark_69 : decode cX6_sortOfMark 69 = .ok (.aload_n 0, 1) := by decide +kernel
theorem dX6_sortOfMark_70 : decode cX6_sortOfMark 70 = .ok (.iload_n 1, 1) := by decide +kernel
theorem dX6_sortOfMark_71 : decode cX6_sortOfMark 71 = .ok (.iconst 4, 1) := by decide +kernel
theorem dX6_sortOfMark_72 : decode cX6_sortOfMark 72 = .ok (.iadd, 1) := by decide +kernel
theorem dX6_sortOfMark_73 : decode cX6_sortOfMark 73 = .ok (.invokevirtual 62, 3) := by decide +kernel
theorem dX6_sortOfMark_76 : decode cX6_sortOfMark 76 = .ok (.bipush 62, 2) := by decide +kernel
theorem dX6_sortOfMark_78 : decode cX6_sortOfMark 78 = .ok (.if_icmp .ne 7, 3) := by decide +kernel
theorem dX6_sortOfMark_81 : decode cX6_sortOfMark 81 = .ok (.iconst 3, 1) := by decide +kernel
theorem dX6_sortOfMark_82 : decode cX6_sortOfMark 82 = .ok (.goto 4, 3) := by decide +kernel
theorem dX6_sortOfMark_85 : decode cX6_sortOfMark 85 = .ok (.iconst (-1), 1) := by decide +kernel
theorem dX6_sortOfMark_86 : decode cX6_sortOfMark 86 = .ok (.ireturn, 1) := by decide +kernel
theorem dX6_sortOfMark_87 : decode cX6_sortOfMark 87 = .ok (.aload_n 0, 1) := by decide +kernel
theorem dX6_sortOfMark_88 : decode cX6_sortOfMark 88 = .ok (.iload_n 1, 1) := by decide +kernel
theorem dX6_sortOfMark_89 : decode cX6_sortOfMark 89 = .ok (.iconst 2, 1) := by decide +kernel
theorem dX6_sortOfMark_90 : decode cX6_sortOfMark 90 = .ok (.iadd, 1) := by decide +kernel
theorem dX6_sortOfMark_91 : decode cX6_sortOfMark 91 = .ok (.invokevirtual 62, 3) := by decide +kernel
theorem dX6_sortOfMark_94 : decode cX6_sortOfMark 94 = .ok (.bipush 62, 2) := by decide +kernel
theorem dX6_sortOfMark_96 : decode cX6_sortOfMark 96 = .ok (.if_icmp .eq 5, 3) := by decide +kernel
theorem dX6_sortOfMark_99 : decode cX6_sortOfMark 99 = .ok (.iconst (-1), 1) := by decide +kernel
theorem dX6_sortOfMark_100 : decode cX6_sortOfMark 100 = .ok (.ireturn, 1) := by decide +kernel
theorem dX6_sortOfMark_101 : decode cX6_sortOfMark 101 = .ok (.iload_n 2, 1) := by decide +kernel
theorem dX6_sortOfMark_102 : decode cX6_sortOfMark 102 = .ok (.lookupswitch 51 #[(33, 46), (60, 49), (61, 44), (110, 42)], 42) := by decide +kernel
theorem dX6_sortOfMark_144 : decode cX6_sortOfMark 144 = .ok (.iconst 1, 1) := by decide +kernel
theorem dX6_sortOfMark_145 : decode cX6_sortOfMark 145 = .ok (.ireturn, 1) := by decide +kernel
theorem dX6_sortOfMark_146 : decode cX6_sortOfMark 146 = .ok (.iconst 4, 1) := by decide +kernel
theorem dX6_sortOfMark_147 : decode cX6_sortOfMark 147 = .ok (.ireturn, 1) := by decide +kernel
theorem dX6_sortOfMark_148 : decode cX6_sortOfMark 148 = .ok (.bipush 7, 2) := by decide +kernel
theorem dX6_sortOfMark_150 : decode cX6_sortOfMark 150 = .ok (.ireturn, 1) := by decide +kernel
theorem dX6_sortOfMark_151 : decode cX6_sortOfMark 151 = .ok (.iconst 0, 1) := by decide +kernel
theorem dX6_sortOfMark_152 : decode cX6_sortOfMark 152 = .ok (.ireturn, 1) := by decide +kernel
theorem dX6_sortOfMark_153 : decode cX6_sortOfMark 153 = .ok (.aload_n 0, 1) := by decide +kernel
theorem dX6_sortOfMark_154 : decode cX6_sortOfMark 154 = .ok (.iload_n 1, 1) := by decide +kernel
theorem dX6_sortOfMark_155 : decode cX6_sortOfMark 155 = .ok (.iconst 1, 1) := by decide +kernel
theorem dX6_sortOfMark_156 : decode cX6_sortOfMark 156 = .ok (.iadd, 1) := by decide +kernel
theorem dX6_sortOfMark_157 : decode cX6_sortOfMark 157 = .ok (.invokevirtual 68, 3) := by decide +kernel
theorem dX6_sortOfMark_160 : decode cX6_sortOfMark 160 = .ok (.ifCond .eq 5, 3) := by decide +kernel
theorem dX6_sortOfMark_163 : decode cX6_sortOfMark 163 = .ok (.iconst 2, 1) := by decide +kernel
theorem dX6_sortOfMark_164 : decode cX6_sortOfMark 164 = .ok (.ireturn, 1) := by decide +kernel
theorem dX6_sortOfMark_165 : decode cX6_sortOfMark 165 = .ok (.iload_n 2, 1) := by decide +kernel
theorem dX6_sortOfMark_166 : decode cX6_sortOfMark 166 = .ok (.bipush 97, 2) := by decide +kernel
theorem dX6_sortOfMark_168 : decode cX6_sortOfMark 168 = .ok (.if_icmp .lt 13, 3) := by decide +kernel
theorem dX6_sortOfMark_171 : decode cX6_sortOfMark 171 = .ok (.iload_n 2, 1) := by decide +kernel
theorem dX6_sortOfMark_172 : decode cX6_sortOfMark 172 = .ok (.bipush 105, 2) := by decide +kernel
theorem dX6_sortOfMark_174 : decode cX6_sortOfMark 174 = .ok (.if_icmp .ge 7, 3) := by decide +kernel
theorem dX6_sortOfMark_177 : decode cX6_sortOfMark 177 = .ok (.iconst 5, 1) := by decide +kernel
theorem dX6_sortOfMark_178 : decode cX6_sortOfMark 178 = .ok (.goto 4, 3) := by decide +kernel
theorem dX6_sortOfMark_181 : decode cX6_sortOfMark 181 = .ok (.iconst (-1), 1) := by decide +kernel
theorem dX6_sortOfMark_182 : decode cX6_sortOfMark 182 = .ok (.ireturn, 1) := by decide +kernel
theorem dX6_isIndex_0 : decode cX6_isIndex 0 = .ok (.aload_n 0, 1) := by decide +kernel
theorem dX6_isIndex_1 : decode cX6_isIndex 1 = .ok (.iload_n 1, 1) := by decide +kernel
theorem dX6_isIndex_2 : decode cX6_isIndex 2 = .ok (.invokevirtual 62, 3) := by decide +kernel
theorem dX6_isIndex_5 : decode cX6_isIndex 5 = .ok (.bipush 48, 2) := by decide +kernel
theorem dX6_isIndex_7 : decode cX6_isIndex 7 = .ok (.if_icmp .lt 17, 3) := by decide +kernel
theorem dX6_isIndex_10 : decode cX6_isIndex 10 = .ok (.aload_n 0, 1) := by decide +kernel
theorem dX6_isIndex_11 : decode cX6_isIndex 11 = .ok (.iload_n 1, 1) := by decide +kernel
theorem dX6_isIndex_12 : decode cX6_isIndex 12 = .ok (.invokevirtual 62, 3) := by decide +kernel
theorem dX6_isIndex_15 : decode cX6_isIndex 15 = .ok (.bipush 52, 2) := by decide +kernel
theorem dX6_isIndex_17 : decode cX6_isIndex 17 = .ok (.if_icmp .ge 7, 3) := by decide +kernel
theorem dX6_isIndex_20 : decode cX6_isIndex 20 = .ok (.iconst 1, 1) := by decide +kernel
theorem dX6_isIndex_21 : decode cX6_isIndex 21 = .ok (.goto 4, 3) := by decide +kernel
theorem dX6_isIndex_24 : decode cX6_isIndex 24 = .ok (.iconst 0, 1) := by decide +kernel
theorem dX6_isIndex_25 : decode cX6_isIndex 25 = .ok (.ireturn, 1) := by decide +kernel
theorem dX6_byteAt_0 : decode cX6_byteAt 0 = .ok (.aload_n 0, 1) := by decide +kernel
theorem dX6_byteAt_1 : decode cX6_byteAt 1 = .ok (.getfield 21, 3) := by decide +kernel
theorem dX6_byteAt_4 : decode cX6_byteAt 4 = .ok (.iload_n 1, 1) := by decide +kernel
theorem dX6_byteAt_5 : decode cX6_byteAt 5 = .ok (.invokestatic 72, 3) := by decide +kernel
theorem dX6_byteAt_8 : decode cX6_byteAt 8 = .ok (.ireturn, 1) := by decide +kernel
theorem dX6_blame_0 : decode cX6_blame 0 = .ok (.aload_n 0, 1) := by decide +kernel
theorem dX6_blame_1 : decode cX6_blame 1 = .ok (.getfield 34, 3) := by decide +kernel
theorem dX6_blame_4 : decode cX6_blame 4 = .ok (.ifCond .ne 13, 3) := by decide +kernel
theorem dX6_blame_7 : decode cX6_blame 7 = .ok (.aload_n 0, 1) := by decide +kernel
theorem dX6_blame_8 : decode cX6_blame 8 = .ok (.iload_n 1, 1) := by decide +kernel
theorem dX6_blame_9 : decode cX6_blame 9 = .ok (.putfield 34, 3) := by decide +kernel
theorem dX6_blame_12 : decode cX6_blame 12 = .ok (.aload_n 0, 1) := by decide +kernel
theorem dX6_blame_13 : decode cX6_blame 13 = .ok (.iload_n 2, 1) := by decide +kernel
theorem dX6_blame_14 : decode cX6_blame 14 = .ok (.putfield 9, 3) := by decide +kernel
theorem dX6_blame_17 : decode cX6_blame 17 = .ok (.return_, 1) := by decide +kernel
theorem dX7_init_0 : decode cX7_init 0 = .ok (.aload_n 0, 1) := by decide +kernel
theorem dX7_init_1 : decode cX7_init 1 = .ok (.invokespecial 3, 3) := by decide +kernel
theorem dX7_init_4 : decode cX7_init 4 = .ok (.aload_n 0, 1) := by decide +kernel
theorem dX7_init_5 : decode cX7_init 5 = .ok (.bipush 120, 2) := by decide +kernel
theorem dX7_init_7 : decode cX7_init 7 = .ok (.newarray .int, 2) := by decide +kernel
theorem dX7_init_9 : decode cX7_init 9 = .ok (.putfield 9, 3) := by decide +kernel
theorem dX7_init_12 : decode cX7_init 12 = .ok (.return_, 1) := by decide +kernel
theorem dX7_putFour_0 : decode cX7_putFour 0 = .ok (.bipush 24, 2) := by decide +kernel
theorem dX7_putFour_2 : decode cX7_putFour 2 = .ok (.istore_n 2, 1) := by decide +kernel
theorem dX7_putFour_3 : decode cX7_putFour 3 = .ok (.iload_n 2, 1) := by decide +kernel
theorem dX7_putFour_4 : decode cX7_putFour 4 = .ok (.ifCond .lt 44, 3) := by decide +kernel
theorem dX7_putFour_7 : decode cX7_putFour 7 = .ok (.aload_n 0, 1) := by decide +kernel
theorem dX7_putFour_8 : decode cX7_putFour 8 = .ok (.getfield 15, 3) := by decide +kernel
theorem dX7_putFour_11 : decode cX7_putFour 11 = .ok (.bipush 120, 2) := by decide +kernel
theorem dX7_putFour_13 : decode cX7_putFour 13 = .ok (.if_icmp .ge 35, 3) := by decide +kernel
theorem dX7_putFour_16 : decode cX7_putFour 16 = .ok (.aload_n 0, 1) := by decide +kernel
theorem dX7_putFour_17 : decode cX7_putFour 17 = .ok (.getfield 9, 3) := by decide +kernel
theorem dX7_putFour_20 : decode cX7_putFour 20 = .ok (.aload_n 0, 1) := by decide +kernel
theorem dX7_putFour_21 : decode cX7_putFour 21 = .ok (.getfield 15, 3) := by decide +kernel
theorem dX7_putFour_24 : decode cX7_putFour 24 = .ok (.iload_n 1, 1) := by decide +kernel
theorem dX7_putFour_25 : decode cX7_putFour 25 = .ok (.iload_n 2, 1) := by decide +kernel
theorem dX7_putFour_26 : decode cX7_putFour 26 = .ok (.iushr, 1) := by decide +kernel
theorem dX7_putFour_27 : decode cX7_putFour 27 = .ok (.sipush 255, 3) := by decide +kernel
theorem dX7_putFour_30 : decode cX7_putFour 30 = .ok (.iand, 1) := by decide +kernel
theorem dX7_putFour_31 : decode cX7_putFour 31 = .ok (.iastore, 1) := by decide +kernel
theorem dX7_putFour_32 : decode cX7_putFour 32 = .ok (.aload_n 0, 1) := by decide +kernel
theorem dX7_putFour_33 : decode cX7_putFour 33 = .ok (.dup, 1) := by decide +kernel
theorem dX7_putFour_34 : decode cX7_putFour 34 = .ok (.getfield 15, 3) := by decide +kernel
theorem dX7_putFour_37 : decode cX7_putFour 37 = .ok (.iconst 1, 1) := by decide +kernel
theorem dX7_putFour_38 : decode cX7_putFour 38 = .ok (.iadd, 1) := by decide +kernel
theorem dX7_putFour_39 : decode cX7_putFour 39 = .ok (.putfield 15, 3) := by decide +kernel
theorem dX7_putFour_42 : decode cX7_putFour 42 = .ok (.iinc 2 (-8), 3) := by decide +kernel
theorem dX7_putFour_45 : decode cX7_putFour 45 = .ok (.goto (-42), 3) := by decide +kernel
theorem dX7_putFour_48 : decode cX7_putFour 48 = .ok (.return_, 1) := by decide +kernel
theorem dX7_isName_0 : decode cX7_isName 0 = .ok (.iconst 0, 1) := by decide +kernel
theorem dX7_isName_1 : decode cX7_isName 1 = .ok (.istore_n 1, 1) := by decide +kernel
theorem dX7_isName_2 : decode cX7_isName 2 = .ok (.iload_n 1, 1) := by decide +kernel
theorem dX7_isName_3 : decode cX7_isName 3 = .ok (.aload_n 0, 1) := by decide +kernel
theorem dX7_isName_4 : decode cX7_isName 4 = .ok (.getfield 15, 3) := by decide +kernel
theorem dX7_isName_7 : decode cX7_isName 7 = .ok (.if_icmp .ge 75, 3) := by decide +kernel
theorem dX7_isName_10 : decode cX7_isName 10 = .ok (.aload_n 0, 1) := by decide +kernel
theorem dX7_isName_11 : decode cX7_isName 11 = .ok (.getfield 9, 3) := by decide +kernel
theorem dX7_isName_14 : decode cX7_isName 14 = .ok (.iload_n 1, 1) := by decide +kernel
theorem dX7_isName_15 : decode cX7_isName 15 = .ok (.iaload, 1) := by decide +kernel
theorem dX7_isName_16 : decode cX7_isName 16 = .ok (.bipush 97, 2) := by decide +kernel
theorem dX7_isName_18 : decode cX7_isName 18 = .ok (.if_icmp .lt 18, 3) := by decide +kernel
theorem dX7_isName_21 : decode cX7_isName 21 = .ok (.aload_n 0, 1) := by decide +kernel
theorem dX7_isName_22 : decode cX7_isName 22 = .ok (.getfield 9, 3) := by decide +kernel
theorem dX7_isName_25 : decode cX7_isName 25 = .ok (.iload_n 1, 1) := by decide +kernel
theorem dX7_isName_26 : decode cX7_isName 26 = .ok (.iaload, 1) := by decide +kernel
theorem dX7_isName_27 : decode cX7_isName 27 = .ok (.bipush 122, 2) := by decide +kernel
theorem dX7_isName_29 : decode cX7_isName 29 = .ok (.if_icmp .gt 7, 3) := by decide +kernel
theorem dX7_isName_32 : decode cX7_isName 32 = .ok (.iconst 1, 1) := by decide +kernel
theorem dX7_isName_33 : decode cX7_isName 33 = .ok (.goto 4, 3) := by decide +kernel
theorem dX7_isName_36 : decode cX7_isName 36 = .ok (.iconst 0, 1) := by decide +kernel
theorem dX7_isName_37 : decode cX7_isName 37 = .ok (.istore_n 2, 1) := by decide +kernel
theorem dX7_isName_38 : decode cX7_isName 38 = .ok (.aload_n 0, 1) := by decide +kernel
theorem dX7_isName_39 : decode cX7_isName 39 = .ok (.getfield 9, 3) := by decide +kernel
theorem dX7_isName_42 : decode cX7_isName 42 = .ok (.iload_n 1, 1) := by decide +kernel
theorem dX7_isName_43 : decode cX7_isName 43 = .ok (.iaload, 1) := by decide +kernel
theorem dX7_isName_44 : decode cX7_isName 44 = .ok (.bipush 65, 2) := by decide +kernel
theorem dX7_isName_46 : decode cX7_isName 46 = .ok (.if_icmp .lt 18, 3) := by decide +kernel
theorem dX7_isName_49 : decode cX7_isName 49 = .ok (.aload_n 0, 1) := by decide +kernel
theorem dX7_isName_50 : decode cX7_isName 50 = .ok (.getfield 9, 3) := by decide +kernel
theorem dX7_isName_53 : decode cX7_isName 53 = .ok (.iload_n 1, 1) := by decide +kernel
theorem dX7_isName_54 : decode cX7_isName 54 = .ok (.iaload, 1) := by decide +kernel
theorem dX7_isName_55 : decode cX7_isName 55 = .ok (.bipush 90, 2) := by decide +kernel
theorem dX7_isName_57 : decode cX7_isName 57 = .ok (.if_icmp .gt 7, 3) := by decide +kernel
theorem dX7_isName_60 : decode cX7_isName 60 = .ok (.iconst 1, 1) := by decide +kernel
theorem dX7_isName_61 : decode cX7_isName 61 = .ok (.goto 4, 3) := by decide +kernel
theorem dX7_isName_64 : decode cX7_isName 64 = .ok (.iconst 0, 1) := by decide +kernel
theorem dX7_isName_65 : decode cX7_isName 65 = .ok (.istore_n 3, 1) := by decide +kernel
theorem dX7_isName_66 : decode cX7_isName 66 = .ok (.iload_n 2, 1) := by decide +kernel
theorem dX7_isName_67 : decode cX7_isName 67 = .ok (.ifCond .ne 9, 3) := by decide +kernel
theorem dX7_isName_70 : decode cX7_isName 70 = .ok (.iload_n 3, 1) := by decide +kernel
theorem dX7_isName_71 : decode cX7_isName 71 = .ok (.ifCond .ne 5, 3) := by decide +kernel
theorem dX7_isName_74 : decode cX7_isName 74 = .ok (.iconst 0, 1) := by decide +kernel
theorem dX7_isName_75 : decode cX7_isName 75 = .ok (.ireturn, 1) := by decide +kernel
theorem dX7_isName_76 : decode cX7_isName 76 = .ok (.iinc 1 1, 3) := by decide +kernel
theorem dX7_isName_79 : decode cX7_isName 79 = .ok (.goto (-77), 3) := by decide +kernel
theorem dX7_isName_82 : decode cX7_isName 82 = .ok (.aload_n 0, 1) := by decide +kernel
theorem dX7_isName_83 : decode cX7_isName 83 = .ok (.getfield 15, 3) := by decide +kernel
theorem dX7_isName_86 : decode cX7_isName 86 = .ok (.iconst 1, 1) := by decide +kernel
theorem dX7_isName_87 : decode cX7_isName 87 = .ok (.if_icmp .lt 16, 3) := by decide +kernel
theorem dX7_isName_90 : decode cX7_isName 90 = .ok (.aload_n 0, 1) := by decide +kernel
theorem dX7_isName_91 : decode cX7_isName 91 = .ok (.getfield 15, 3) := by decide +kernel
theorem dX7_isName_94 : decode cX7_isName 94 = .ok (.bipush 6, 2) := by decide +kernel
theorem dX7_isName_96 : decode cX7_isName 96 = .ok (.if_icmp .gt 7, 3) := by decide +kernel
theorem dX7_isName_99 : decode cX7_isName 99 = .ok (.iconst 1, 1) := by decide +kernel
theorem dX7_isName_100 : decode cX7_isName 100 = .ok (.goto 4, 3) := by decide +kernel
theorem dX7_isName_103 : decode cX7_isName 103 = .ok (.iconst 0, 1) := by decide +kernel
theorem dX7_isName_104 : decode cX7_isName 104 = .ok (.ireturn, 1) := by decide +kernel
theorem dX7_cutAll_0 : decode cX7_cutAll 0 = .ok (.aload_n 0, 1) := by decide +kernel
theorem dX7_cutAll_1 : decode cX7_cutAll 1 = .ok (.getfield 15, 3) := by decide +kernel
theorem dX7_cutAll_4 : decode cX7_cutAll 4 = .ok (.newarray .int, 2) := by decide +kernel
theorem dX7_cutAll_6 : decode cX7_cutAll 6 = .ok (.astore_n 1, 1) := by decide +kernel
theorem dX7_cutAll_7 : decode cX7_cutAll 7 = .ok (.aload_n 0, 1) := by decide +kernel
theorem dX7_cutAll_8 : decode cX7_cutAll 8 = .ok (.getfield 9, 3) := by decide +kernel
theorem dX7_cutAll_11 : decode cX7_cutAll 11 = .ok (.iconst 0, 1) := by decide +kernel
theorem dX7_cutAll_12 : decode cX7_cutAll 12 = .ok (.aload_n 1, 1) := by decide +kernel
theorem dX7_cutAll_13 : decode cX7_cutAll 13 = .ok (.iconst 0, 1) := by decide +kernel
theorem dX7_cutAll_14 : decode cX7_cutAll 14 = .ok (.aload_n 0, 1) := by decide +kernel
theorem dX7_cutAll_15 : decode cX7_cutAll 15 = .ok (.getfield 15, 3) := by decide +kernel
theorem dX7_cutAll_18 : decode cX7_cutAll 18 = .ok (.invokestatic 19, 3) := by decide +kernel
theorem dX7_cutAll_21 : decode cX7_cutAll 21 = .ok (.aload_n 0, 1) := by decide +kernel
theorem dX7_cutAll_22 : decode cX7_cutAll 22 = .ok (.iconst 0, 1) := by decide +kernel
theorem dX7_cutAll_23 : decode cX7_cutAll 23 = .ok (.putfield 15, 3) := by decide +kernel
theorem dX7_cutAll_26 : decode cX7_cutAll 26 = .ok (.aload_n 1, 1) := by decide +kernel
theorem dX7_cutAll_27 : decode cX7_cutAll 27 = .ok (.areturn, 1) := by decide +kernel
theorem dX8_init_0 : decode cX8_init 0 = .ok (.aload_n 0, 1) := by decide +kernel
theorem dX8_init_1 : decode cX8_init 1 = .ok (.invokespecial 3, 3) := by decide +kernel
theorem dX8_init_4 : decode cX8_init 4 = .ok (.aload_n 0, 1) := by decide +kernel
theorem dX8_init_5 : decode cX8_init 5 = .ok (.sipush 250, 3) := by decide +kernel
theorem dX8_init_8 : decode cX8_init 8 = .ok (.anewarray 9, 3) := by decide +kernel
theorem dX8_init_11 : decode cX8_init 11 = .ok (.putfield 11, 3) := by decide +kernel
theorem dX8_init_14 : decode cX8_init 14 = .ok (.aload_n 0, 1) := by decide +kernel
theorem dX8_init_15 : decode cX8_init 15 = .ok (.sipush 3000, 3) := by decide +kernel
theorem dX8_init_18 : decode cX8_init 18 = .ok (.newarray .int, 2) := by decide +kernel
theorem dX8_init_20 : decode cX8_init 20 = .ok (.putfield 17, 3) := by decide +kernel
theorem dX8_init_23 : decode cX8_init 23 = .ok (.return_, 1) := by decide +kernel
theorem dX8_clear_0 : decode cX8_clear 0 = .ok (.aload_n 0, 1) := by decide +kernel
theorem dX8_clear_1 : decode cX8_clear 1 = .ok (.iconst 0, 1) := by decide +kernel
theorem dX8_clear_2 : decode cX8_clear 2 = .ok (.putfield 21, 3) := by decide +kernel
theorem dX8_clear_5 : decode cX8_clear 5 = .ok (.aload_n 0, 1) := by decide +kernel
theorem dX8_clear_6 : decode cX8_clear 6 = .ok (.iconst 0, 1) := by decide +kernel
theorem dX8_clear_7 : decode cX8_clear 7 = .ok (.putfield 25, 3) := by decide +kernel
theorem dX8_clear_10 : decode cX8_clear 10 = .ok (.aload_n 0, 1) := by decide +kernel
theorem dX8_clear_11 : decode cX8_clear 11 = .ok (.iconst 0, 1) := by decide +kernel
theorem dX8_clear_12 : decode cX8_clear 12 = .ok (.putfield 28, 3) := by decide +kernel
theorem dX8_clear_15 : decode cX8_clear 15 = .ok (.return_, 1) := by decide +kernel
theorem dX8_at_0 : decode cX8_at 0 = .ok (.iload_n 1, 1) := by decide +kernel
theorem dX8_at_1 : decode cX8_at 1 = .ok (.ifCond .lt 20, 3) := by decide +kernel
theorem dX8_at_4 : decode cX8_at 4 = .ok (.iload_n 1, 1) := by decide +kernel
theorem dX8_at_5 : decode cX8_at 5 = .ok (.aload_n 0, 1) := by decide +kernel
theorem dX8_at_6 : decode cX8_at 6 = .ok (.getfield 25, 3) := by decide +kernel
theorem dX8_at_9 : decode cX8_at 9 = .ok (.if_icmp .ge 12, 3) := by decide +kernel
theorem dX8_at_12 : decode cX8_at 12 = .ok (.aload_n 0, 1) := by decide +kernel
theorem dX8_at_13 : decode cX8_at 13 = .ok (.getfield 11, 3) := by decide +kernel
theorem dX8_at_16 : decode cX8_at 16 = .ok (.iload_n 1, 1) := by decide +kernel
theorem dX8_at_17 : decode cX8_at 17 = .ok (.aaload, 1) := by decide +kernel
theorem dX8_at_18 : decode cX8_at 18 = .ok (.goto 4, 3) := by decide +kernel
theorem dX8_at_21 : decode cX8_at 21 = .ok (.aconst_null, 1) := by decide +kernel
theorem dX8_at_22 : decode cX8_at 22 = .ok (.areturn, 1) := by decide +kernel
theorem dX8_open_0 : decode cX8_open 0 = .ok (.aload_n 0, 1) := by decide +kernel
theorem dX8_open_1 : decode cX8_open 1 = .ok (.getfield 25, 3) := by decide +kernel
theorem dX8_open_4 : decode cX8_open 4 = .ok (.sipush 250, 3) := by decide +kernel
theorem dX8_open_7 : decode cX8_open 7 = .ok (.if_icmp .lt 9, 3) := by decide +kernel
theorem dX8_open_10 : decode cX8_open 10 = .ok (.aload_n 0, 1) := by decide +kernel
theorem dX8_open_11 : decode cX8_open 11 = .ok (.iconst 1, 1) := by decide +kernel
theorem dX8_open_12 : decode cX8_open 12 = .ok (.putfield 28, 3) := by decide +kernel
theorem dX8_open_15 : decode cX8_open 15 = .ok (.return_, 1) := by decide +kernel
theorem dX8_open_16 : decode cX8_open 16 = .ok (.aload_n 0, 1) := by decide +kernel
theorem dX8_open_17 : decode cX8_open 17 = .ok (.getfield 11, 3) := by decide +kernel
theorem dX8_open_20 : decode cX8_open 20 = .ok (.aload_n 0, 1) := by decide +kernel
theorem dX8_open_21 : decode cX8_open 21 = .ok (.getfield 25, 3) := by decide +kernel
theorem dX8_open_24 : decode cX8_open 24 = .ok (.aaload, 1) := by decide +kernel
theorem dX8_open_25 : decode cX8_open 25 = .ok (.ifnonnull 20, 3) := by decide +kernel
theorem dX8_open_28 : decode cX8_open 28 = .ok (.aload_n 0, 1) := by decide +kernel
theorem dX8_open_29 : decode cX8_open 29 = .ok (.getfield 11, 3) := by decide +kernel
theorem dX8_open_32 : decode cX8_open 32 = .ok (.aload_n 0, 1) := by decide +kernel
theorem dX8_open_33 : decode cX8_open 33 = .ok (.getfield 25, 3) := by decide +kernel
theorem dX8_open_36 : decode cX8_open 36 = .ok (.new 9, 3) := by decide +kernel
theorem dX8_open_39 : decode cX8_open 39 = .ok (.dup, 1) := by decide +kernel
theorem dX8_open_40 : decode cX8_open 40 = .ok (.aload_n 1, 1) := by decide +kernel
theorem dX8_open_41 : decode cX8_open 41 = .ok (.invokespecial 32, 3) := by decide +kernel
theorem dX8_open_44 : decode cX8_open 44 = .ok (.aastore, 1) := by decide +kernel
theorem dX8_open_45 : decode cX8_open 45 = .ok (.aload_n 0, 1) := by decide +kernel
theorem dX8_open_46 : decode cX8_open 46 = .ok (.getfield 11, 3) := by decide +kernel
theorem dX8_open_49 : decode cX8_open 49 = .ok (.aload_n 0, 1) := by decide +kernel
theorem dX8_open_50 : decode cX8_open 50 = .ok (.getfield 25, 3) := by decide +kernel
theorem dX8_open_53 : decode cX8_open 53 = .ok (.aaload, 1) := by decide +kernel
theorem dX8_open_54 : decode cX8_open 54 = .ok (.astore 6, 2) := by decide +kernel
theorem dX8_open_56 : decode cX8_open 56 = .ok (.aload 6, 2) := by decide +kernel
theorem dX8_open_58 : decode cX8_open 58 = .ok (.aload_n 1, 1) := by decide +kernel
theorem dX8_open_59 : decode cX8_open 59 = .ok (.putfield 35, 3) := by decide +kernel
theorem dX8_open_62 : decode cX8_open 62 = .ok (.aload 6, 2) := by decide +kernel
theorem dX8_open_64 : decode cX8_open 64 = .ok (.iload_n 2, 1) := by decide +kernel
theorem dX8_open_65 : decode cX8_open 65 = .ok (.putfield 39, 3) := by decide +kernel
theorem dX8_open_68 : decode cX8_open 68 = .ok (.aload 6, 2) := by decide +kernel
theorem dX8_open_70 : decode cX8_open 70 = .ok (.iload_n 3, 1) := by decide +kernel
theorem dX8_open_71 : decode cX8_open 71 = .ok (.putfield 42, 3) := by decide +kernel
theorem dX8_open_74 : decode cX8_open 74 = .ok (.aload 6, 2) := by decide +kernel
theorem dX8_open_76 : decode cX8_open 76 = .ok (.iload 4, 2) := by decide +kernel
theorem dX8_open_78 : decode cX8_open 78 = .ok (.putfield 45, 3) := by decide +kernel
theorem dX8_open_81 : decode cX8_open 81 = .ok (.aload 6, 2) := by decide +kernel
theorem dX8_open_83 : decode cX8_open 83 = .ok (.iload 5, 2) := by decide +kernel
theorem dX8_open_85 : decode cX8_open 85 = .ok (.putfield 48, 3) := by decide +kernel
theorem dX8_open_88 : decode cX8_open 88 = .ok (.aload 6, 2) := by decide +kernel
theorem dX8_open_90 : decode cX8_open 90 = .ok (.aload_n 0, 1) := by decide +kernel
theorem dX8_open_91 : decode cX8_open 91 = .ok (.getfield 21, 3) := by decide +kernel
theorem dX8_open_94 : decode cX8_open 94 = .ok (.putfield 51, 3) := by decide +kernel
theorem dX8_open_97 : decode cX8_open 97 = .ok (.aload 6, 2) := by decide +kernel
theorem dX8_open_99 : decode cX8_open 99 = .ok (.iconst 0, 1) := by decide +kernel
theorem dX8_open_100 : decode cX8_open 100 = .ok (.putfield 54, 3) := by decide +kernel
theorem dX8_open_103 : decode cX8_open 103 = .ok (.aload 6, 2) := by decide +kernel
theorem dX8_open_105 : decode cX8_open 105 = .ok (.aconst_null, 1) := by decide +kernel
theorem dX8_open_106 : decode cX8_open 106 = .ok (.putfield 57, 3) := by decide +kernel
theorem dX8_open_109 : decode cX8_open 109 = .ok (.aload_n 0, 1) := by decide +kernel
theorem dX8_open_110 : decode cX8_open 110 = .ok (.dup, 1) := by decide +kernel
theorem dX8_open_111 : decode cX8_open 111 = .ok (.getfield 25, 3) := by decide +kernel
theorem dX8_open_114 : decode cX8_open 114 = .ok (.iconst 1, 1) := by decide +kernel
theorem dX8_open_115 : decode cX8_open 115 = .ok (.iadd, 1) := by decide +kernel
theorem dX8_open_116 : decode cX8_open 116 = .ok (.putfield 25, 3) := by decide +kernel
theorem dX8_open_119 : decode cX8_open 119 = .ok (.return_, 1) := by decide +kernel
theorem dX8_putMade_0 : decode cX8_putMade 0 = .ok (.iload_n 2, 1) := by decide +kernel
theorem dX8_putMade_1 : decode cX8_putMade 1 = .ok (.ifCond .lt 19, 3) := by decide +kernel
theorem dX8_putMade_4 : decode cX8_putMade 4 = .ok (.iload_n 3, 1) := by decide +kernel
theorem dX8_putMade_5 : decode cX8_putMade 5 = .ok (.ifCond .lt 15, 3) := by decide +kernel
theorem dX8_putMade_8 : decode cX8_putMade 8 = .ok (.iload_n 2, 1) := by decide +kernel
theorem dX8_putMade_9 : decode cX8_putMade 9 = .ok (.iload_n 3, 1) := by decide +kernel
theorem dX8_putMade_10 : decode cX8_putMade 10 = .ok (.iadd, 1) := by decide +kernel
theorem dX8_putMade_11 : decode cX8_putMade 11 = .ok (.aload_n 1, 1) := by decide +kernel
theorem dX8_putMade_12 : decode cX8_putMade 12 = .ok (.arraylength, 1) := by decide +kernel
theorem dX8_putMade_13 : decode cX8_putMade 13 = .ok (.if_icmp .gt 7, 3) := by decide +kernel
theorem dX8_putMade_16 : decode cX8_putMade 16 = .ok (.iconst 1, 1) := by decide +kernel
theorem dX8_putMade_17 : decode cX8_putMade 17 = .ok (.goto 4, 3) := by decide +kernel
theorem dX8_putMade_20 : decode cX8_putMade 20 = .ok (.iconst 0, 1) := by decide +kernel
theorem dX8_putMade_21 : decode cX8_putMade 21 = .ok (.istore 4, 2) := by decide +kernel
theorem dX8_putMade_23 : decode cX8_putMade 23 = .ok (.aload_n 0, 1) := by decide +kernel
theorem dX8_putMade_24 : decode cX8_putMade 24 = .ok (.getfield 28, 3) := by decide +kernel
theorem dX8_putMade_27 : decode cX8_putMade 27 = .ok (.ifCond .ne 27, 3) := by decide +kernel
theorem dX8_putMade_30 : decode cX8_putMade 30 = .ok (.aload_n 0, 1) := by decide +kernel
theorem dX8_putMade_31 : decode cX8_putMade 31 = .ok (.getfield 25, 3) := by decide +kernel
theorem dX8_putMade_34 : decode cX8_putMade 34 = .ok (.ifCond .eq 20, 3) := by decide +kernel
theorem dX8_putMade_37 : decode cX8_putMade 37 = .ok (.iload 4, 2) := by decide +kernel
theorem dX8_putMade_39 : decode cX8_putMade 39 = .ok (.ifCond .eq 15, 3) := by decide +kernel
theorem dX8_putMade_42 : decode cX8_putMade 42 = .ok (.aload_n 0, 1) := by decide +kernel
theorem dX8_putMade_43 : decode cX8_putMade 43 = .ok (.getfield 21, 3) := by decide +kernel
theorem dX8_putMade_46 : decode cX8_putMade 46 = .ok (.iload_n 3, 1) := by decide +kernel
theorem dX8_putMade_47 : decode cX8_putMade 47 = .ok (.iadd, 1) := by decide +kernel
theorem dX8_putMade_48 : decode cX8_putMade 48 = .ok (.sipush 3000, 3) := by decide +kernel
theorem dX8_putMade_51 : decode cX8_putMade 51 = .ok (.if_icmp .le 9, 3) := by decide +kernel
theorem dX8_putMade_54 : decode cX8_putMade 54 = .ok (.aload_n 0, 1) := by decide +kernel
theorem dX8_putMade_55 : decode cX8_putMade 55 = .ok (.iconst 1, 1) := by decide +kernel
theorem dX8_putMade_56 : decode cX8_putMade 56 = .ok (.putfield 28, 3) := by decide +kernel
theorem dX8_putMade_59 : decode cX8_putMade 59 = .ok (.return_, 1) := by decide +kernel
theorem dX8_putMade_60 : decode cX8_putMade 60 = .ok (.aload_n 1, 1) := by decide +kernel
theorem dX8_putMade_61 : decode cX8_putMade 61 = .ok (.iload_n 2, 1) := by decide +kernel
theorem dX8_putMade_62 : decode cX8_putMade 62 = .ok (.aload_n 0, 1) := by decide +kernel
theorem dX8_putMade_63 : decode cX8_putMade 63 = .ok (.getfield 17, 3) := by decide +kernel
theorem dX8_putMade_66 : decode cX8_putMade 66 = .ok (.aload_n 0, 1) := by decide +kernel
theorem dX8_putMade_67 : decode cX8_putMade 67 = .ok (.getfield 21, 3) := by decide +kernel
theorem dX8_putMade_70 : decode cX8_putMade 70 = .ok (.iload_n 3, 1) := by decide +kernel
theorem dX8_putMade_71 : decode cX8_putMade 71 = .ok (.invokestatic 61, 3) := by decide +kernel
theorem dX8_putMade_74 : decode cX8_putMade 74 = .ok (.aload_n 0, 1) := by decide +kernel
theorem dX8_putMade_75 : decode cX8_putMade 75 = .ok (.dup, 1) := by decide +kernel
theorem dX8_putMade_76 : decode cX8_putMade 76 = .ok (.getfield 21, 3) := by decide +kernel
theorem dX8_putMade_79 : decode cX8_putMade 79 = .ok (.iload_n 3, 1) := by decide +kernel
theorem dX8_putMade_80 : decode cX8_putMade 80 = .ok (.iadd, 1) := by decide +kernel
theorem dX8_putMade_81 : decode cX8_putMade 81 = .ok (.putfield 21, 3) := by decide +kernel
theorem dX8_putMade_84 : decode cX8_putMade 84 = .ok (.aload_n 0, 1) := by decide +kernel
theorem dX8_putMade_85 : decode cX8_putMade 85 = .ok (.getfield 11, 3) := by decide +kernel
theorem dX8_putMade_88 : decode cX8_putMade 88 = .ok (.aload_n 0, 1) := by decide +kernel
theorem dX8_putMade_89 : decode cX8_putMade 89 = .ok (.getfield 25, 3) := by decide +kernel
theorem dX8_putMade_92 : decode cX8_putMade 92 = .ok (.iconst 1, 1) := by decide +kernel
theorem dX8_putMade_93 : decode cX8_putMade 93 = .ok (.isub, 1) := by decide +kernel
theorem dX8_putMade_94 : decode cX8_putMade 94 = .ok (.aaload, 1) := by decide +kernel
theorem dX8_putMade_95 : decode cX8_putMade 95 = .ok (.iload_n 3, 1) := by decide +kernel
theorem dX8_putMade_96 : decode cX8_putMade 96 = .ok (.putfield 54, 3) := by decide +kernel
theorem dX8_putMade_99 : decode cX8_putMade 99 = .ok (.return_, 1) := by decide +kernel
theorem dX8_madeByte_0 : decode cX8_madeByte 0 = .ok (.iload_n 2, 1) := by decide +kernel
theorem dX8_madeByte_1 : decode cX8_madeByte 1 = .ok (.ifCond .lt 27, 3) := by decide +kernel
theorem dX8_madeByte_4 : decode cX8_madeByte 4 = .ok (.iload_n 2, 1) := by decide +kernel
theorem dX8_madeByte_5 : decode cX8_madeByte 5 = .ok (.aload_n 1, 1) := by decide +kernel
theorem dX8_madeByte_6 : decode cX8_madeByte 6 = .ok (.getfield 54, 3) := by decide +kernel
theorem dX8_madeByte_9 : decode cX8_madeByte 9 = .ok (.if_icmp .ge 19, 3) := by decide +kernel
theorem dX8_madeByte_12 : decode cX8_madeByte 12 = .ok (.aload_n 0, 1) := by decide +kernel
theorem dX8_madeByte_13 : decode cX8_madeByte 13 = .ok (.getfield 17, 3) := by decide +kernel
theorem dX8_madeByte_16 : decode cX8_madeByte 16 = .ok (.aload_n 1, 1) := by decide +kernel
theorem dX8_madeByte_17 : decode cX8_madeByte 17 = .ok (.getfield 51, 3) := by decide +kernel
theorem dX8_madeByte_20 : decode cX8_madeByte 20 = .ok (.iload_n 2, 1) := by decide +kernel
theorem dX8_madeByte_21 : decode cX8_madeByte 21 = .ok (.iadd, 1) := by decide +kernel
theorem dX8_madeByte_22 : decode cX8_madeByte 22 = .ok (.invokestatic 67, 3) := by decide +kernel
theorem dX8_madeByte_25 : decode cX8_madeByte 25 = .ok (.goto 4, 3) := by decide +kernel
theorem dX8_madeByte_28 : decode cX8_madeByte 28 = .ok (.iconst (-1), 1) := by decide +kernel
theorem dX8_madeByte_29 : decode cX8_madeByte 29 = .ok (.ireturn, 1) := by decide +kernel
theorem dX8_shownByte_0 : decode cX8_shownByte 0 = .ok (.aload_n 1, 1) := by decide +kernel
theorem dX8_shownByte_1 : decode cX8_shownByte 1 = .ok (.getfield 57, 3) := by decide +kernel
theorem dX8_shownByte_4 : decode cX8_shownByte 4 = .ok (.ifnonnull 12, 3) := by decide +kernel
theorem dX8_shownByte_7 : decode cX8_shownByte 7 = .ok (.aload_n 0, 1) := by decide +kernel
theorem dX8_shownByte_8 : decode cX8_shownByte 8 = .ok (.aload_n 1, 1) := by decide +kernel
theorem dX8_shownByte_9 : decode cX8_shownByte 9 = .ok (.iload_n 2, 1) := by decide +kernel
theorem dX8_shownByte_10 : decode cX8_shownByte 10 = .ok (.invokevirtual 71, 3) := by decide +kernel
theorem dX8_shownByte_13 : decode cX8_shownByte 13 = .ok (.goto 14, 3) := by decide +kernel
theorem dX8_shownByte_16 : decode cX8_shownByte 16 = .ok (.aload_n 1, 1) := by decide +kernel
theorem dX8_shownByte_17 : decode cX8_shownByte 17 = .ok (.getfield 57, 3) := by decide +kernel
theorem dX8_shownByte_20 : decode cX8_shownByte 20 = .ok (.getfield 75, 3) := by decide +kernel
theorem dX8_shownByte_23 : decode cX8_shownByte 23 = .ok (.iload_n 2, 1) := by decide +kernel
theorem dX8_shownByte_24 : decode cX8_shownByte 24 = .ok (.invokestatic 67, 3) := by decide +kernel
theorem dX8_shownByte_27 : decode cX8_shownByte 27 = .ok (.ireturn, 1) := by decide +kernel
theorem dX8_madeIs_0 : decode cX8_madeIs 0 = .ok (.aload_n 1, 1) := by decide +kernel
theorem dX8_madeIs_1 : decode cX8_madeIs 1 = .ok (.getfield 54, 3) := by decide +kernel
theorem dX8_madeIs_4 : decode cX8_madeIs 4 = .ok (.aload_n 2, 1) := by decide +kernel
theorem dX8_madeIs_5 : decode cX8_madeIs 5 = .ok (.arraylength, 1) := by decide +kernel
theorem dX8_madeIs_6 : decode cX8_madeIs 6 = .ok (.if_icmp .ne 7, 3) := by decide +kernel
theorem dX8_madeIs_9 : decode cX8_madeIs 9 = .ok (.iconst 1, 1) := by decide +kernel
theorem dX8_madeIs_10 : decode cX8_madeIs 10 = .ok (.goto 4, 3) := by decide +kernel
theorem dX8_madeIs_13 : decode cX8_madeIs 13 = .ok (.iconst 0, 1) := by decide +kernel
theorem dX8_madeIs_14 : decode cX8_madeIs 14 = .ok (.istore_n 3, 1) := by decide +kernel
theorem dX8_madeIs_15 : decode cX8_madeIs 15 = .ok (.iconst 0, 1) := by decide +kernel
theorem dX8_madeIs_16 : decode cX8_madeIs 16 = .ok (.istore 4, 2) := by decide +kernel
theorem dX8_madeIs_18 : decode cX8_madeIs 18 = .ok (.iload 4, 2) := by decide +kernel
theorem dX8_madeIs_20 : decode cX8_madeIs 20 = .ok (.aload_n 2, 1) := by decide +kernel
theorem dX8_madeIs_21 : decode cX8_madeIs 21 = .ok (.arraylength, 1) := by decide +kernel
theorem dX8_madeIs_22 : decode cX8_madeIs 22 = .ok (.if_icmp .ge 33, 3) := by decide +kernel
theorem dX8_madeIs_25 : decode cX8_madeIs 25 = .ok (.iload_n 3, 1) := by decide +kernel
theorem dX8_madeIs_26 : decode cX8_madeIs 26 = .ok (.ifCond .eq 29, 3) := by decide +kernel
theorem dX8_madeIs_29 : decode cX8_madeIs 29 = .ok (.aload_n 0, 1) := by decide +kernel
theorem dX8_madeIs_30 : decode cX8_madeIs 30 = .ok (.aload_n 1, 1) := by decide +kernel
theorem dX8_madeIs_31 : decode cX8_madeIs 31 = .ok (.iload 4, 2) := by decide +kernel
theorem dX8_madeIs_33 : decode cX8_madeIs 33 = .ok (.invokevirtual 71, 3) := by decide +kernel
theorem dX8_madeIs_36 : decode cX8_madeIs 36 = .ok (.aload_n 2, 1) := by decide +kernel
theorem dX8_madeIs_37 : decode cX8_madeIs 37 = .ok (.iload 4, 2) := by decide +kernel
theorem dX8_madeIs_39 : decode cX8_madeIs 39 = .ok (.iaload, 1) := by decide +kernel
theorem dX8_madeIs_40 : decode cX8_madeIs 40 = .ok (.if_icmp .ne 7, 3) := by decide +kernel
theorem dX8_madeIs_43 : decode cX8_madeIs 43 = .ok (.iconst 1, 1) := by decide +kernel
theorem dX8_madeIs_44 : decode cX8_madeIs 44 = .ok (.goto 4, 3) := by decide +kernel
theorem dX8_madeIs_47 : decode cX8_madeIs 47 = .ok (.iconst 0, 1) := by decide +kernel
theorem dX8_madeIs_48 : decode cX8_madeIs 48 = .ok (.istore_n 3, 1) := by decide +kernel
theorem dX8_madeIs_49 : decode cX8_madeIs 49 = .ok (.iinc 4 1, 3) := by decide +kernel
theorem dX8_madeIs_52 : decode cX8_madeIs 52 = .ok (.goto (-34), 3) := by decide +kernel
theorem dX8_madeIs_55 : decode cX8_madeIs 55 = .ok (.iload_n 3, 1) := by decide +kernel
theorem dX8_madeIs_56 : decode cX8_madeIs 56 = .ok (.ireturn, 1) := by decide +kernel
theorem dX8_copyOfMade_0 : decode cX8_copyOfMade 0 = .ok (.aload_n 1, 1) := by decide +kernel
theorem dX8_copyOfMade_1 : decode cX8_copyOfMade 1 = .ok (.getfield 54, 3) := by decide +kernel
theorem dX8_copyOfMade_4 : decode cX8_copyOfMade 4 = .ok (.newarray .int, 2) := by decide +kernel
theorem dX8_copyOfMade_6 : decode cX8_copyOfMade 6 = .ok (.astore_n 2, 1) := by decide +kernel
theorem dX8_copyOfMade_7 : decode cX8_copyOfMade 7 = .ok (.iconst 0, 1) := by decide +kernel
theorem dX8_copyOfMade_8 : decode cX8_copyOfMade 8 = .ok (.istore_n 3, 1) := by decide +kernel
theorem dX8_copyOfMade_9 : decode cX8_copyOfMade 9 = .ok (.iload_n 3, 1) := by decide +kernel
theorem dX8_copyOfMade_10 : decode cX8_copyOfMade 10 = .ok (.aload_n 2, 1) := by decide +kernel
theorem dX8_copyOfMade_11 : decode cX8_copyOfMade 11 = .ok (.arraylength, 1) := by decide +kernel
theorem dX8_copyOfMade_12 : decode cX8_copyOfMade 12 = .ok (.if_icmp .ge 18, 3) := by decide +kernel
theorem dX8_copyOfMade_15 : decode cX8_copyOfMade 15 = .ok (.aload_n 2, 1) := by decide +kernel
theorem dX8_copyOfMade_16 : decode cX8_copyOfMade 16 = .ok (.iload_n 3, 1) := by decide +kernel
theorem dX8_copyOfMade_17 : decode cX8_copyOfMade 17 = .ok (.aload_n 0, 1) := by decide +kernel
theorem dX8_copyOfMade_18 : decode cX8_copyOfMade 18 = .ok (.aload_n 1, 1) := by decide +kernel
theorem dX8_copyOfMade_19 : decode cX8_copyOfMade 19 = .ok (.iload_n 3, 1) := by decide +kernel
theorem dX8_copyOfMade_20 : decode cX8_copyOfMade 20 = .ok (.invokevirtual 71, 3) := by decide +kernel
theorem dX8_copyOfMade_23 : decode cX8_copyOfMade 23 = .ok (.iastore, 1) := by decide +kernel
theorem dX8_copyOfMade_24 : decode cX8_copyOfMade 24 = .ok (.iinc 3 1, 3) := by decide +kernel
theorem dX8_copyOfMade_27 : decode cX8_copyOfMade 27 = .ok (.goto (-18), 3) := by decide +kernel
theorem dX8_copyOfMade_30 : decode cX8_copyOfMade 30 = .ok (.aload_n 2, 1) := by decide +kernel
theorem dX8_copyOfMade_31 : decode cX8_copyOfMade 31 = .ok (.areturn, 1) := by decide +kernel
theorem dX8_isClash_0 : decode cX8_isClash 0 = .ok (.aload_n 1, 1) := by decide +kernel
theorem dX8_isClash_1 : decode cX8_isClash 1 = .ok (.getfield 57, 3) := by decide +kernel
theorem dX8_isClash_4 : decode cX8_isClash 4 = .ok (.ifnull 22, 3) := by decide +kernel
theorem dX8_isClash_7 : decode cX8_isClash 7 = .ok (.aload_n 0, 1) := by decide +kernel
theorem dX8_isClash_8 : decode cX8_isClash 8 = .ok (.aload_n 1, 1) := by decide +kernel
theorem dX8_isClash_9 : decode cX8_isClash 9 = .ok (.aload_n 1, 1) := by decide +kernel
theorem dX8_isClash_10 : decode cX8_isClash 10 = .ok (.getfield 57, 3) := by decide +kernel
theorem dX8_isClash_13 : decode cX8_isClash 13 = .ok (.getfield 80, 3) := by decide +kernel
theorem dX8_isClash_16 : decode cX8_isClash 16 = .ok (.invokevirtual 83, 3) := by decide +kernel
theorem dX8_isClash_19 : decode cX8_isClash 19 = .ok (.ifCond .ne 7, 3) := by decide +kernel
theorem dX8_isClash_22 : decode cX8_isClash 22 = .ok (.iconst 1, 1) := by decide +kernel
theorem dX8_isClash_23 : decode cX8_isClash 23 = .ok (.goto 4, 3) := by decide +kernel
theorem dX8_isClash_26 : decode cX8_isClash 26 = .ok (.iconst 0, 1) := by decide +kernel
theorem dX8_isClash_27 : decode cX8_isClash 27 = .ok (.ireturn, 1) := by decide +kernel
theorem dX8_countClashes_0 : decode cX8_countClashes 0 = .ok (.iconst 0, 1) := by decide +kernel
theorem dX8_countClashes_1 : decode cX8_countClashes 1 = .ok (.istore_n 1, 1) := by decide +kernel
theorem dX8_countClashes_2 : decode cX8_countClashes 2 = .ok (.iconst 0, 1) := by decide +kernel
theorem dX8_countClashes_3 : decode cX8_countClashes 3 = .ok (.istore_n 2, 1) := by decide +kernel
theorem dX8_countClashes_4 : decode cX8_countClashes 4 = .ok (.iload_n 2, 1) := by decide +kernel
theorem dX8_countClashes_5 : decode cX8_countClashes 5 = .ok (.aload_n 0, 1) := by decide +kernel
theorem dX8_countClashes_6 : decode cX8_countClashes 6 = .ok (.getfield 25, 3) := by decide +kernel
theorem dX8_countClashes_9 : decode cX8_countClashes 9 = .ok (.if_icmp .ge 25, 3) := by decide +kernel
theorem dX8_countClashes_12 : decode cX8_countClashes 12 = .ok (.aload_n 0, 1) := by decide +kernel
theorem dX8_countClashes_13 : decode cX8_countClashes 13 = .ok (.aload_n 0, 1) := by decide +kernel
theorem dX8_countClashes_14 : decode cX8_countClashes 14 = .ok (.getfield 11, 3) := by decide +kernel
theorem dX8_countClashes_17 : decode cX8_countClashes 17 = .ok (.iload_n 2, 1) := by decide +kernel
theorem dX8_countClashes_18 : decode cX8_countClashes 18 = .ok (.aaload, 1) := by decide +kernel
theorem dX8_countClashes_19 : decode cX8_countClashes 19 = .ok (.invokevirtual 87, 3) := by decide +kernel
theorem dX8_countClashes_22 : decode cX8_countClashes 22 = .ok (.ifCond .eq 6, 3) := by decide +kernel
theorem dX8_countClashes_25 : decode cX8_countClashes 25 = .ok (.iinc 1 1, 3) := by decide +kernel
theorem dX8_countClashes_28 : decode cX8_countClashes 28 = .ok (.iinc 2 1, 3) := by decide +kernel
theorem dX8_countClashes_31 : decode cX8_countClashes 31 = .ok (.goto (-27), 3) := by decide +kernel
theorem dX8_countClashes_34 : decode cX8_countClashes 34 = .ok (.iload_n 1, 1) := by decide +kernel
theorem dX8_countClashes_35 : decode cX8_countClashes 35 = .ok (.ireturn, 1) := by decide +kernel
theorem dX8_shownBefore_0 : decode cX8_shownBefore 0 = .ok (.iconst 0, 1) := by decide +kernel
theorem dX8_shownBefore_1 : decode cX8_shownBefore 1 = .ok (.istore_n 2, 1) := by decide +kernel
theorem dX8_shownBefore_2 : decode cX8_shownBefore 2 = .ok (.iconst 0, 1) := by decide +kernel
theorem dX8_shownBefore_3 : decode cX8_shownBefore 3 = .ok (.istore_n 3, 1) := by decide +kernel
theorem dX8_shownBefore_4 : decode cX8_shownBefore 4 = .ok (.iload_n 3, 1) := by decide +kernel
theorem dX8_shownBefore_5 : decode cX8_shownBefore 5 = .ok (.iload_n 1, 1) := by decide +kernel
theorem dX8_shownBefore_6 : decode cX8_shownBefore 6 = .ok (.if_icmp .ge 29, 3) := by decide +kernel
theorem dX8_shownBefore_9 : decode cX8_shownBefore 9 = .ok (.iload_n 3, 1) := by decide +kernel
theorem dX8_shownBefore_10 : decode cX8_shownBefore 10 = .ok (.aload_n 0, 1) := by decide +kernel
theorem dX8_shownBefore_11 : decode cX8_shownBefore 11 = .ok (.getfield 25, 3) := by decide +kernel
theorem dX8_shownBefore_14 : decode cX8_shownBefore 14 = .ok (.if_icmp .ge 21, 3) := by decide +kernel
theorem dX8_shownBefore_17 : decode cX8_shownBefore 17 = .ok (.iload_n 2, 1) := by decide +kernel
theorem dX8_shownBefore_18 : decode cX8_shownBefore 18 = .ok (.aload_n 0, 1) := by decide +kernel
theorem dX8_shownBefore_19 : decode cX8_shownBefore 19 = .ok (.getfield 11, 3) := by decide +kernel
theorem dX8_shownBefore_22 : decode cX8_shownBefore 22 = .ok (.iload_n 3, 1) := by decide +kernel
theorem dX8_shownBefore_23 : decode cX8_shownBefore 23 = .ok (.aaload, 1) := by decide +kernel
theorem dX8_shownBefore_24 : decode cX8_shownBefore 24 = .ok (.invokevirtual 91, 3) := by decide +kernel
theorem dX8_shownBefore_27 : decode cX8_shownBefore 27 = .ok (.iadd, 1) := by decide +kernel
theorem dX8_shownBefore_28 : decode cX8_shownBefore 28 = .ok (.istore_n 2, 1) := by decide +kernel
theorem dX8_shownBefore_29 : decode cX8_shownBefore 29 = .ok (.iinc 3 1, 3) := by decide +kernel
theorem dX8_shownBefore_32 : decode cX8_shownBefore 32 = .ok (.goto (-28), 3) := by decide +kernel
theorem dX8_shownBefore_35 : decode cX8_shownBefore 35 = .ok (.iload_n 2, 1) := by decide +kernel
theorem dX8_shownBefore_36 : decode cX8_shownBefore 36 = .ok (.ireturn, 1) := by decide +kernel
theorem dX8_showing_0 : decode cX8_showing 0 = .ok (.iload_n 1, 1) := by decide +kernel
theorem dX8_showing_1 : decode cX8_showing 1 = .ok (.istore_n 2, 1) := by decide +kernel
theorem dX8_showing_2 : decode cX8_showing 2 = .ok (.iconst 0, 1) := by decide +kernel
theorem dX8_showing_3 : decode cX8_showing 3 = .ok (.istore_n 3, 1) := by decide +kernel
theorem dX8_showing_4 : decode cX8_showing 4 = .ok (.iload_n 3, 1) := by decide +kernel
theorem dX8_showing_5 : decode cX8_showing 5 = .ok (.aload_n 0, 1) := by decide +kernel
theorem dX8_showing_6 : decode cX8_showing 6 = .ok (.getfield 25, 3) := by decide +kernel
theorem dX8_showing_9 : decode cX8_showing 9 = .ok (.if_icmp .ge 37, 3) := by decide +kernel
theorem dX8_showing_12 : decode cX8_showing 12 = .ok (.iload_n 2, 1) := by decide +kernel
theorem dX8_showing_13 : decode cX8_showing 13 = .ok (.ifCond .lt 33, 3) := by decide +kernel
theorem dX8_showing_16 : decode cX8_showing 16 = .ok (.aload_n 0, 1) := by decide +kernel
theorem dX8_showing_17 : decode cX8_showing 17 = .ok (.getfield 11, 3) := by decide +kernel
theorem dX8_showing_20 : decode cX8_showing 20 = .ok (.iload_n 3, 1) := by decide +kernel
theorem dX8_showing_21 : decode cX8_showing 21 = .ok (.aaload, 1) := by decide +kernel
theorem dX8_showing_22 : decode cX8_showing 22 = .ok (.invokevirtual 91, 3) := by decide +kernel
theorem dX8_showing_25 : decode cX8_showing 25 = .ok (.istore 4, 2) := by decide +kernel
theorem dX8_showing_27 : decode cX8_showing 27 = .ok (.iload_n 2, 1) := by decide +kernel
theorem dX8_showing_28 : decode cX8_showing 28 = .ok (.iload 4, 2) := by decide +kernel
theorem dX8_showing_30 : decode cX8_showing 30 = .ok (.if_icmp .ge 5, 3) := by decide +kernel
theorem dX8_showing_33 : decode cX8_showing 33 = .ok (.iload_n 3, 1) := by decide +kernel
theorem dX8_showing_34 : decode cX8_showing 34 = .ok (.ireturn, 1) := by decide +kernel
theorem dX8_showing_35 : decode cX8_showing 35 = .ok (.iload_n 2, 1) := by decide +kernel
theorem dX8_showing_36 : decode cX8_showing 36 = .ok (.iload 4, 2) := by decide +kernel
theorem dX8_showing_38 : decode cX8_showing 38 = .ok (.isub, 1) := by decide +kernel
theorem dX8_showing_39 : decode cX8_showing 39 = .ok (.istore_n 2, 1) := by decide +kernel
theorem dX8_showing_40 : decode cX8_showing 40 = .ok (.iinc 3 1, 3) := by decide +kernel
theorem dX8_showing_43 : decode cX8_showing 43 = .ok (.goto (-39), 3) := by decide +kernel
theorem dX8_showing_46 : decode cX8_showing 46 = .ok (.iconst (-1), 1) := by decide +kernel
theorem dX8_showing_47 : decode cX8_showing 47 = .ok (.ireturn, 1) := by decide +kernel
theorem dX8_takeHands_0 : decode cX8_takeHands 0 = .ok (.iconst 0, 1) := by decide +kernel
theorem dX8_takeHands_1 : decode cX8_takeHands 1 = .ok (.istore_n 2, 1) := by decide +kernel
theorem dX8_takeHands_2 : decode cX8_takeHands 2 = .ok (.iconst 0, 1) := by decide +kernel
theorem dX8_takeHands_3 : decode cX8_takeHands 3 = .ok (.istore_n 3, 1) := by decide +kernel
theorem dX8_takeHands_4 : decode cX8_takeHands 4 = .ok (.iconst 0, 1) := by decide +kernel
theorem dX8_takeHands_5 : decode cX8_takeHands 5 = .ok (.istore 4, 2) := by decide +kernel
theorem dX8_takeHands_7 : decode cX8_takeHands 7 = .ok (.iload 4, 2) := by decide +kernel
theorem dX8_takeHands_9 : decode cX8_takeHands 9 = .ok (.aload_n 1, 1) := by decide +kernel
theorem dX8_takeHands_10 : decode cX8_takeHands 10 = .ok (.getfield 25, 3) := by decide +kernel
theorem dX8_takeHands_13 : decode cX8_takeHands 13 = .ok (.if_icmp .ge 124, 3) := by decide +kernel
theorem dX8_takeHands_16 : decode cX8_takeHands 16 = .ok (.aload_n 1, 1) := by decide +kernel
theorem dX8_takeHands_17 : decode cX8_takeHands 17 = .ok (.getfield 11, 3) := by decide +kernel
theorem dX8_takeHands_20 : decode cX8_takeHands 20 = .ok (.iload 4, 2) := by decide +kernel
theorem dX8_takeHands_22 : decode cX8_takeHands 22 = .ok (.aaload, 1) := by decide +kernel
theorem dX8_takeHands_23 : decode cX8_takeHands 23 = .ok (.astore 5, 2) := by decide +kernel
theorem dX8_takeHands_25 : decode cX8_takeHands 25 = .ok (.aload 5, 2) := by decide +kernel
theorem dX8_takeHands_27 : decode cX8_takeHands 27 = .ok (.getfield 57, 3) := by decide +kernel
theorem dX8_takeHands_30 : decode cX8_takeHands 30 = .ok (.ifnonnull 7, 3) := by decide +kernel
theorem dX8_takeHands_33 : decode cX8_takeHands 33 = .ok (.iconst (-1), 1) := by decide +kernel
theorem dX8_takeHands_34 : decode cX8_takeHands 34 = .ok (.goto 10, 3) := by decide +kernel
theorem dX8_takeHands_37 : decode cX8_takeHands 37 = .ok (.aload_n 0, 1) := by decide +kernel
theorem dX8_takeHands_38 : decode cX8_takeHands 38 = .ok (.aload 5, 2) := by decide +kernel
theorem dX8_takeHands_40 : decode cX8_takeHands 40 = .ok (.iload_n 3, 1) := by decide +kernel
theorem dX8_takeHands_41 : decode cX8_takeHands 41 = .ok (.invokevirtual 95, 3) := by decide +kernel
theorem dX8_takeHands_44 : decode cX8_takeHands 44 = .ok (.istore 6, 2) := by decide +kernel
theorem dX8_takeHands_46 : decode cX8_takeHands 46 = .ok (.aload 5, 2) := by decide +kernel
theorem dX8_takeHands_48 : decode cX8_takeHands 48 = .ok (.aload 5, 2) := by decide +kernel
theorem dX8_takeHands_50 : decode cX8_takeHands 50 = .ok (.getfield 57, 3) := by decide +kernel
theorem dX8_takeHands_53 : decode cX8_takeHands 53 = .ok (.ifnull 13, 3) := by decide +kernel
theorem dX8_takeHands_56 : decode cX8_takeHands 56 = .ok (.iload 6, 2) := by decide +kernel
theorem dX8_takeHands_58 : decode cX8_takeHands 58 = .ok (.iconst (-1), 1) := by decide +kernel
theorem dX8_takeHands_59 : decode cX8_takeHands 59 = .ok (.if_icmp .ne 7, 3) := by decide +kernel
theorem dX8_takeHands_62 : decode cX8_takeHands 62 = .ok (.iconst 1, 1) := by decide +kernel
theorem dX8_takeHands_63 : decode cX8_takeHands 63 = .ok (.goto 4, 3) := by decide +kernel
theorem dX8_takeHands_66 : decode cX8_takeHands 66 = .ok (.iconst 0, 1) := by decide +kernel
theorem dX8_takeHands_67 : decode cX8_takeHands 67 = .ok (.putfield 98, 3) := by decide +kernel
theorem dX8_takeHands_70 : decode cX8_takeHands 70 = .ok (.aload 5, 2) := by decide +kernel
theorem dX8_takeHands_72 : decode cX8_takeHands 72 = .ok (.getfield 98, 3) := by decide +kernel
theorem dX8_takeHands_75 : decode cX8_takeHands 75 = .ok (.ifCond .eq 6, 3) := by decide +kernel
theorem dX8_takeHands_78 : decode cX8_takeHands 78 = .ok (.iinc 2 1, 3) := by decide +kernel
theorem dX8_takeHands_81 : decode cX8_takeHands 81 = .ok (.iload 6, 2) := by decide +kernel
theorem dX8_takeHands_83 : decode cX8_takeHands 83 = .ok (.iconst (-1), 1) := by decide +kernel
theorem dX8_takeHands_84 : decode cX8_takeHands 84 = .ok (.if_icmp .eq 47, 3) := by decide +kernel
theorem dX8_takeHands_87 : decode cX8_takeHands 87 = .ok (.aload_n 0, 1) := by decide +kernel
theorem dX8_takeHands_88 : decode cX8_takeHands 88 = .ok (.getfield 11, 3) := by decide +kernel
theorem dX8_takeHands_91 : decode cX8_takeHands 91 = .ok (.iload 6, 2) := by decide +kernel
theorem dX8_takeHands_93 : decode cX8_takeHands 93 = .ok (.aaload, 1) := by decide +kernel
theorem dX8_takeHands_94 : decode cX8_takeHands 94 = .ok (.aload_n 0, 1) := by decide +kernel
theorem dX8_takeHands_95 : decode cX8_takeHands 95 = .ok (.aload_n 0, 1) := by decide +kernel
theorem dX8_takeHands_96 : decode cX8_takeHands 96 = .ok (.getfield 11, 3) := by decide +kernel
theorem dX8_takeHands_99 : decode cX8_takeHands 99 = .ok (.iload 6, 2) := by decide +kernel
theorem dX8_takeHands_101 : decode cX8_takeHands 101 = .ok (.aaload, 1) := by decide +kernel
theorem dX8_takeHands_102 : decode cX8_takeHands 102 = .ok (.aload 5, 2) := by decide +kernel
theorem dX8_takeHands_104 : decode cX8_takeHands 104 = .ok (.getfield 57, 3) := by decide +kernel
theorem dX8_takeHands_107 : decode cX8_takeHands 107 = .ok (.getfield 75, 3) := by decide +kernel
theorem dX8_takeHands_110 : decode cX8_takeHands 110 = .ok (.invokevirtual 83, 3) := by decide +kernel
theorem dX8_takeHands_113 : decode cX8_takeHands 113 = .ok (.ifCond .eq 7, 3) := by decide +kernel
theorem dX8_takeHands_116 : decode cX8_takeHands 116 = .ok (.aconst_null, 1) := by decide +kernel
theorem dX8_takeHands_117 : decode cX8_takeHands 117 = .ok (.goto 8, 3) := by decide +kernel
theorem dX8_takeHands_120 : decode cX8_takeHands 120 = .ok (.aload 5, 2) := by decide +kernel
theorem dX8_takeHands_122 : decode cX8_takeHands 122 = .ok (.getfield 57, 3) := by decide +kernel
theorem dX8_takeHands_125 : decode cX8_takeHands 125 = .ok (.putfield 57, 3) := by decide +kernel
theorem dX8_takeHands_128 : decode cX8_takeHands 128 = .ok (.iload 6, 2) := by decide +kernel
theorem dX8_takeHands_130 : decode cX8_takeHands 130 = .ok (.istore_n 3, 1) := by decide +kernel
theorem dX8_takeHands_131 : decode cX8_takeHands 131 = .ok (.iinc 4 1, 3) := by decide +kernel
theorem dX8_takeHands_134 : decode cX8_takeHands 134 = .ok (.goto (-127), 3) := by decide +kernel
theorem dX8_takeHands_137 : decode cX8_takeHands 137 = .ok (.iload_n 2, 1) := by decide +kernel
theorem dX8_takeHands_138 : decode cX8_takeHands 138 = .ok (.ireturn, 1) := by decide +kernel
theorem dX8_find_0 : decode cX8_find 0 = .ok (.iconst 0, 1) := by decide +kernel
theorem dX8_find_1 : decode cX8_find 1 = .ok (.istore_n 3, 1) := by decide +kernel
theorem dX8_find_2 : decode cX8_find 2 = .ok (.iload_n 3, 1) := by decide +kernel
theorem dX8_find_3 : decode cX8_find 3 = .ok (.aload_n 0, 1) := by decide +kernel
theorem dX8_find_4 : decode cX8_find 4 = .ok (.getfield 25, 3) := by decide +kernel
theorem dX8_find_7 : decode cX8_find 7 = .ok (.if_icmp .ge 52, 3) := by decide +kernel
theorem dX8_find_10 : decode cX8_find 10 = .ok (.iload_n 2, 1) := by decide +kernel
theorem dX8_find_11 : decode cX8_find 11 = .ok (.iload_n 3, 1) := by decide +kernel
theorem dX8_find_12 : decode cX8_find 12 = .ok (.iadd, 1) := by decide +kernel
theorem dX8_find_13 : decode cX8_find 13 = .ok (.aload_n 0, 1) := by decide +kernel
theorem dX8_find_14 : decode cX8_find 14 = .ok (.getfield 25, 3) := by decide +kernel
theorem dX8_find_17 : decode cX8_find 17 = .ok (.if_icmp .ge 9, 3) := by decide +kernel
theorem dX8_find_20 : decode cX8_find 20 = .ok (.iload_n 2, 1) := by decide +kernel
theorem dX8_find_21 : decode cX8_find 21 = .ok (.iload_n 3, 1) := by decide +kernel
theorem dX8_find_22 : decode cX8_find 22 = .ok (.iadd, 1) := by decide +kernel
theorem dX8_find_23 : decode cX8_find 23 = .ok (.goto 11, 3) := by decide +kernel
theorem dX8_find_26 : decode cX8_find 26 = .ok (.iload_n 2, 1) := by decide +kernel
theorem dX8_find_27 : decode cX8_find 27 = .ok (.iload_n 3, 1) := by decide +kernel
theorem dX8_find_28 : decode cX8_find 28 = .ok (.iadd, 1) := by decide +kernel
theorem dX8_find_29 : decode cX8_find 29 = .ok (.aload_n 0, 1) := by decide +kernel
theorem dX8_find_30 : decode cX8_find 30 = .ok (.getfield 25, 3) := by decide +kernel
theorem dX8_find_33 : decode cX8_find 33 = .ok (.isub, 1) := by decide +kernel
theorem dX8_find_34 : decode cX8_find 34 = .ok (.istore 4, 2) := by decide +kernel
theorem dX8_find_36 : decode cX8_find 36 = .ok (.aload_n 0, 1) := by decide +kernel
theorem dX8_find_37 : decode cX8_find 37 = .ok (.getfield 11, 3) := by decide +kernel
theorem dX8_find_40 : decode cX8_find 40 = .ok (.iload 4, 2) := by decide +kernel
theorem dX8_find_42 : decode cX8_find 42 = .ok (.aaload, 1) := by decide +kernel
theorem dX8_find_43 : decode cX8_find 43 = .ok (.aload_n 1, 1) := by decide +kernel
theorem dX8_find_44 : decode cX8_find 44 = .ok (.invokevirtual 101, 3) := by decide +kernel
theorem dX8_find_47 : decode cX8_find 47 = .ok (.ifCond .eq 6, 3) := by decide +kernel
theorem dX8_find_50 : decode cX8_find 50 = .ok (.iload 4, 2) := by decide +kernel
theorem dX8_find_52 : decode cX8_find 52 = .ok (.ireturn, 1) := by decide +kernel
theorem dX8_find_53 : decode cX8_find 53 = .ok (.iinc 3 1, 3) := by decide +kernel
theorem dX8_find_56 : decode cX8_find 56 = .ok (.goto (-54), 3) := by decide +kernel
theorem dX8_find_59 : decode cX8_find 59 = .ok (.iconst (-1), 1) := by decide +kernel
theorem dX8_find_60 : decode cX8_find 60 = .ok (.ireturn, 1) := by decide +kernel
theorem dX8_countUnlike_0 : decode cX8_countUnlike 0 = .ok (.aload_n 0, 1) := by decide +kernel
theorem dX8_countUnlike_1 : decode cX8_countUnlike 1 = .ok (.getfield 25, 3) := by decide +kernel
theorem dX8_countUnlike_4 : decode cX8_countUnlike 4 = .ok (.aload_n 1, 1) := by decide +kernel
theorem dX8_countUnlike_5 : decode cX8_countUnlike 5 = .ok (.getfield 25, 3) := by decide +kernel
theorem dX8_countUnlike_8 : decode cX8_countUnlike 8 = .ok (.invokestatic 104, 3) := by decide +kernel
theorem dX8_countUnlike_11 : decode cX8_countUnlike 11 = .ok (.istore_n 2, 1) := by decide +kernel
theorem dX8_countUnlike_12 : decode cX8_countUnlike 12 = .ok (.aload_n 0, 1) := by decide +kernel
theorem dX8_countUnlike_13 : decode cX8_countUnlike 13 = .ok (.getfield 25, 3) := by decide +kernel
theorem dX8_countUnlike_16 : decode cX8_countUnlike 16 = .ok (.aload_n 1, 1) := by decide +kernel
theorem dX8_countUnlike_17 : decode cX8_countUnlike 17 = .ok (.getfield 25, 3) := by decide +kernel
theorem dX8_countUnlike_20 : decode cX8_countUnlike 20 = .ok (.invokestatic 110, 3) := by decide +kernel
theorem dX8_countUnlike_23 : decode cX8_countUnlike 23 = .ok (.iload_n 2, 1) := by decide +kernel
theorem dX8_countUnlike_24 : decode cX8_countUnlike 24 = .ok (.isub, 1) := by decide +kernel
theorem dX8_countUnlike_25 : decode cX8_countUnlike 25 = .ok (.istore_n 3, 1) := by decide +kernel
theorem dX8_countUnlike_26 : decode cX8_countUnlike 26 = .ok (.iconst 0, 1) := by decide +kernel
theorem dX8_countUnlike_27 : decode cX8_countUnlike 27 = .ok (.istore 4, 2) := by decide +kernel
theorem dX8_countUnlike_29 : decode cX8_countUnlike 29 = .ok (.iload 4, 2) := by decide +kernel
theorem dX8_countUnlike_31 : decode cX8_countUnlike 31 = .ok (.iload_n 2, 1) := by decide +kernel
theorem dX8_countUnlike_32 : decode cX8_countUnlike 32 = .ok (.if_icmp .ge 34, 3) := by decide +kernel
theorem dX8_countUnlike_35 : decode cX8_countUnlike 35 = .ok (.aload_n 0, 1) := by decide +kernel
theorem dX8_countUnlike_36 : decode cX8_countUnlike 36 = .ok (.aload_n 0, 1) := by decide +kernel
theorem dX8_countUnlike_37 : decode cX8_countUnlike 37 = .ok (.getfield 11, 3) := by decide +kernel
theorem dX8_countUnlike_40 : decode cX8_countUnlike 40 = .ok (.iload 4, 2) := by decide +kernel
theorem dX8_countUnlike_42 : decode cX8_countUnlike 42 = .ok (.aaload, 1) := by decide +kernel
theorem dX8_countUnlike_43 : decode cX8_countUnlike 43 = .ok (.aload_n 1, 1) := by decide +kernel
theorem dX8_countUnlike_44 : decode cX8_countUnlike 44 = .ok (.aload_n 1, 1) := by decide +kernel
theorem dX8_countUnlike_45 : decode cX8_countUnlike 45 = .ok (.getfield 11, 3) := by decide +kernel
theorem dX8_countUnlike_48 : decode cX8_countUnlike 48 = .ok (.iload 4, 2) := by decide +kernel
theorem dX8_countUnlike_50 : decode cX8_countUnlike 50 = .ok (.aaload, 1) := by decide +kernel
end
section
theorem dX8_countUnlike_51 : decode cX8_countUnlike 51 = .ok (.invokevirtual 113, 3) := by decide +kernel
theorem dX8_countUnlike_54 : decode cX8_countUnlike 54 = .ok (.ifCond .ne 6, 3) := by decide +kernel
theorem dX8_countUnlike_57 : decode cX8_countUnlike 57 = .ok (.iinc 3 1, 3) := by decide +kernel
theorem dX8_countUnlike_60 : decode cX8_countUnlike 60 = .ok (.iinc 4 1, 3) := by decide +kernel
theorem dX8_countUnlike_63 : decode cX8_countUnlike 63 = .ok (.goto (-34), 3) := by decide +kernel
theorem dX8_countUnlike_66 : decode cX8_countUnlike 66 = .ok (.iload_n 3, 1) := by decide +kernel
theorem dX8_countUnlike_67 : decode cX8_countUnlike 67 = .ok (.ireturn, 1) := by decide +kernel
theorem dX8_showsLike_0 : decode cX8_showsLike 0 = .ok (.aload_n 1, 1) := by decide +kernel
theorem dX8_showsLike_1 : decode cX8_showsLike 1 = .ok (.invokevirtual 91, 3) := by decide +kernel
theorem dX8_showsLike_4 : decode cX8_showsLike 4 = .ok (.istore 4, 2) := by decide +kernel
theorem dX8_showsLike_6 : decode cX8_showsLike 6 = .ok (.iload 4, 2) := by decide +kernel
theorem dX8_showsLike_8 : decode cX8_showsLike 8 = .ok (.aload_n 3, 1) := by decide +kernel
theorem dX8_showsLike_9 : decode cX8_showsLike 9 = .ok (.invokevirtual 91, 3) := by decide +kernel
theorem dX8_showsLike_12 : decode cX8_showsLike 12 = .ok (.if_icmp .ne 7, 3) := by decide +kernel
theorem dX8_showsLike_15 : decode cX8_showsLike 15 = .ok (.iconst 1, 1) := by decide +kernel
theorem dX8_showsLike_16 : decode cX8_showsLike 16 = .ok (.goto 4, 3) := by decide +kernel
theorem dX8_showsLike_19 : decode cX8_showsLike 19 = .ok (.iconst 0, 1) := by decide +kernel
theorem dX8_showsLike_20 : decode cX8_showsLike 20 = .ok (.istore 5, 2) := by decide +kernel
theorem dX8_showsLike_22 : decode cX8_showsLike 22 = .ok (.iconst 0, 1) := by decide +kernel
theorem dX8_showsLike_23 : decode cX8_showsLike 23 = .ok (.istore 6, 2) := by decide +kernel
theorem dX8_showsLike_25 : decode cX8_showsLike 25 = .ok (.iload 6, 2) := by decide +kernel
theorem dX8_showsLike_27 : decode cX8_showsLike 27 = .ok (.iload 4, 2) := by decide +kernel
theorem dX8_showsLike_29 : decode cX8_showsLike 29 = .ok (.if_icmp .ge 38, 3) := by decide +kernel
theorem dX8_showsLike_32 : decode cX8_showsLike 32 = .ok (.iload 5, 2) := by decide +kernel
theorem dX8_showsLike_34 : decode cX8_showsLike 34 = .ok (.ifCond .eq 33, 3) := by decide +kernel
theorem dX8_showsLike_37 : decode cX8_showsLike 37 = .ok (.aload_n 0, 1) := by decide +kernel
theorem dX8_showsLike_38 : decode cX8_showsLike 38 = .ok (.aload_n 1, 1) := by decide +kernel
theorem dX8_showsLike_39 : decode cX8_showsLike 39 = .ok (.iload 6, 2) := by decide +kernel
theorem dX8_showsLike_41 : decode cX8_showsLike 41 = .ok (.invokevirtual 117, 3) := by decide +kernel
theorem dX8_showsLike_44 : decode cX8_showsLike 44 = .ok (.aload_n 2, 1) := by decide +kernel
theorem dX8_showsLike_45 : decode cX8_showsLike 45 = .ok (.aload_n 3, 1) := by decide +kernel
theorem dX8_showsLike_46 : decode cX8_showsLike 46 = .ok (.iload 6, 2) := by decide +kernel
theorem dX8_showsLike_48 : decode cX8_showsLike 48 = .ok (.invokevirtual 117, 3) := by decide +kernel
theorem dX8_showsLike_51 : decode cX8_showsLike 51 = .ok (.if_icmp .ne 7, 3) := by decide +kernel
theorem dX8_showsLike_54 : decode cX8_showsLike 54 = .ok (.iconst 1, 1) := by decide +kernel
theorem dX8_showsLike_55 : decode cX8_showsLike 55 = .ok (.goto 4, 3) := by decide +kernel
theorem dX8_showsLike_58 : decode cX8_showsLike 58 = .ok (.iconst 0, 1) := by decide +kernel
theorem dX8_showsLike_59 : decode cX8_showsLike 59 = .ok (.istore 5, 2) := by decide +kernel
theorem dX8_showsLike_61 : decode cX8_showsLike 61 = .ok (.iinc 6 1, 3) := by decide +kernel
theorem dX8_showsLike_64 : decode cX8_showsLike 64 = .ok (.goto (-39), 3) := by decide +kernel
theorem dX8_showsLike_67 : decode cX8_showsLike 67 = .ok (.iload 5, 2) := by decide +kernel
theorem dX8_showsLike_69 : decode cX8_showsLike 69 = .ok (.ireturn, 1) := by decide +kernel
theorem dX9_init_0 : decode cX9_init 0 = .ok (.aload_n 0, 1) := by decide +kernel
theorem dX9_init_1 : decode cX9_init 1 = .ok (.invokespecial 3, 3) := by decide +kernel
theorem dX9_init_4 : decode cX9_init 4 = .ok (.aload_n 0, 1) := by decide +kernel
theorem dX9_init_5 : decode cX9_init 5 = .ok (.iconst 4, 1) := by decide +kernel
theorem dX9_init_6 : decode cX9_init 6 = .ok (.newarray .int, 2) := by decide +kernel
theorem dX9_init_8 : decode cX9_init 8 = .ok (.putfield 9, 3) := by decide +kernel
theorem dX9_init_11 : decode cX9_init 11 = .ok (.aload_n 0, 1) := by decide +kernel
theorem dX9_init_12 : decode cX9_init 12 = .ok (.new 15, 3) := by decide +kernel
theorem dX9_init_15 : decode cX9_init 15 = .ok (.dup, 1) := by decide +kernel
theorem dX9_init_16 : decode cX9_init 16 = .ok (.invokespecial 17, 3) := by decide +kernel
theorem dX9_init_19 : decode cX9_init 19 = .ok (.putfield 18, 3) := by decide +kernel
theorem dX9_init_22 : decode cX9_init 22 = .ok (.aload_n 0, 1) := by decide +kernel
theorem dX9_init_23 : decode cX9_init 23 = .ok (.iload_n 1, 1) := by decide +kernel
theorem dX9_init_24 : decode cX9_init 24 = .ok (.putfield 22, 3) := by decide +kernel
theorem dX9_init_27 : decode cX9_init 27 = .ok (.aload_n 0, 1) := by decide +kernel
theorem dX9_init_28 : decode cX9_init 28 = .ok (.iload_n 2, 1) := by decide +kernel
theorem dX9_init_29 : decode cX9_init 29 = .ok (.putfield 26, 3) := by decide +kernel
theorem dX9_init_32 : decode cX9_init 32 = .ok (.aload_n 0, 1) := by decide +kernel
theorem dX9_init_33 : decode cX9_init 33 = .ok (.aload_n 3, 1) := by decide +kernel
theorem dX9_init_34 : decode cX9_init 34 = .ok (.putfield 29, 3) := by decide +kernel
theorem dX9_init_37 : decode cX9_init 37 = .ok (.aload_n 0, 1) := by decide +kernel
theorem dX9_init_38 : decode cX9_init 38 = .ok (.aload_n 3, 1) := by decide +kernel
theorem dX9_init_39 : decode cX9_init 39 = .ok (.ifnonnull 7, 3) := by decide +kernel
theorem dX9_init_42 : decode cX9_init 42 = .ok (.iconst 0, 1) := by decide +kernel
theorem dX9_init_43 : decode cX9_init 43 = .ok (.goto 9, 3) := by decide +kernel
theorem dX9_init_46 : decode cX9_init 46 = .ok (.aload_n 3, 1) := by decide +kernel
theorem dX9_init_47 : decode cX9_init 47 = .ok (.getfield 33, 3) := by decide +kernel
theorem dX9_init_50 : decode cX9_init 50 = .ok (.iconst 1, 1) := by decide +kernel
theorem dX9_init_51 : decode cX9_init 51 = .ok (.iadd, 1) := by decide +kernel
theorem dX9_init_52 : decode cX9_init 52 = .ok (.putfield 33, 3) := by decide +kernel
theorem dX9_init_55 : decode cX9_init 55 = .ok (.aload_n 0, 1) := by decide +kernel
theorem dX9_init_56 : decode cX9_init 56 = .ok (.aload 4, 2) := by decide +kernel
theorem dX9_init_58 : decode cX9_init 58 = .ok (.putfield 36, 3) := by decide +kernel
theorem dX9_init_61 : decode cX9_init 61 = .ok (.return_, 1) := by decide +kernel
theorem dX9_isWithin_0 : decode cX9_isWithin 0 = .ok (.aload_n 0, 1) := by decide +kernel
theorem dX9_isWithin_1 : decode cX9_isWithin 1 = .ok (.astore_n 2, 1) := by decide +kernel
theorem dX9_isWithin_2 : decode cX9_isWithin 2 = .ok (.iconst 0, 1) := by decide +kernel
theorem dX9_isWithin_3 : decode cX9_isWithin 3 = .ok (.istore_n 3, 1) := by decide +kernel
theorem dX9_isWithin_4 : decode cX9_isWithin 4 = .ok (.iload_n 3, 1) := by decide +kernel
theorem dX9_isWithin_5 : decode cX9_isWithin 5 = .ok (.bipush 6, 2) := by decide +kernel
theorem dX9_isWithin_7 : decode cX9_isWithin 7 = .ok (.if_icmp .gt 25, 3) := by decide +kernel
theorem dX9_isWithin_10 : decode cX9_isWithin 10 = .ok (.aload_n 2, 1) := by decide +kernel
theorem dX9_isWithin_11 : decode cX9_isWithin 11 = .ok (.ifnull 21, 3) := by decide +kernel
theorem dX9_isWithin_14 : decode cX9_isWithin 14 = .ok (.aload_n 2, 1) := by decide +kernel
theorem dX9_isWithin_15 : decode cX9_isWithin 15 = .ok (.aload_n 1, 1) := by decide +kernel
theorem dX9_isWithin_16 : decode cX9_isWithin 16 = .ok (.if_acmp .ne 5, 3) := by decide +kernel
theorem dX9_isWithin_19 : decode cX9_isWithin 19 = .ok (.iconst 1, 1) := by decide +kernel
theorem dX9_isWithin_20 : decode cX9_isWithin 20 = .ok (.ireturn, 1) := by decide +kernel
theorem dX9_isWithin_21 : decode cX9_isWithin 21 = .ok (.aload_n 2, 1) := by decide +kernel
theorem dX9_isWithin_22 : decode cX9_isWithin 22 = .ok (.getfield 29, 3) := by decide +kernel
theorem dX9_isWithin_25 : decode cX9_isWithin 25 = .ok (.astore_n 2, 1) := by decide +kernel
theorem dX9_isWithin_26 : decode cX9_isWithin 26 = .ok (.iinc 3 1, 3) := by decide +kernel
theorem dX9_isWithin_29 : decode cX9_isWithin 29 = .ok (.goto (-25), 3) := by decide +kernel
theorem dX9_isWithin_32 : decode cX9_isWithin 32 = .ok (.iconst 0, 1) := by decide +kernel
theorem dX9_isWithin_33 : decode cX9_isWithin 33 = .ok (.ireturn, 1) := by decide +kernel
theorem dX10_init_0 : decode cX10_init 0 = .ok (.aload_n 0, 1) := by decide +kernel
theorem dX10_init_1 : decode cX10_init 1 = .ok (.invokespecial 1, 3) := by decide +kernel
theorem dX10_init_4 : decode cX10_init 4 = .ok (.aload_n 0, 1) := by decide +kernel
theorem dX10_init_5 : decode cX10_init 5 = .ok (.new 7, 3) := by decide +kernel
theorem dX10_init_8 : decode cX10_init 8 = .ok (.dup, 1) := by decide +kernel
theorem dX10_init_9 : decode cX10_init 9 = .ok (.invokespecial 9, 3) := by decide +kernel
theorem dX10_init_12 : decode cX10_init 12 = .ok (.putfield 10, 3) := by decide +kernel
theorem dX10_init_15 : decode cX10_init 15 = .ok (.aload_n 0, 1) := by decide +kernel
theorem dX10_init_16 : decode cX10_init 16 = .ok (.new 16, 3) := by decide +kernel
theorem dX10_init_19 : decode cX10_init 19 = .ok (.dup, 1) := by decide +kernel
theorem dX10_init_20 : decode cX10_init 20 = .ok (.invokespecial 18, 3) := by decide +kernel
theorem dX10_init_23 : decode cX10_init 23 = .ok (.putfield 19, 3) := by decide +kernel
theorem dX10_init_26 : decode cX10_init 26 = .ok (.aload_n 0, 1) := by decide +kernel
theorem dX10_init_27 : decode cX10_init 27 = .ok (.bipush 8, 2) := by decide +kernel
theorem dX10_init_29 : decode cX10_init 29 = .ok (.anewarray 23, 3) := by decide +kernel
theorem dX10_init_32 : decode cX10_init 32 = .ok (.putfield 25, 3) := by decide +kernel
theorem dX10_init_35 : decode cX10_init 35 = .ok (.new 23, 3) := by decide +kernel
theorem dX10_init_38 : decode cX10_init 38 = .ok (.dup, 1) := by decide +kernel
theorem dX10_init_39 : decode cX10_init 39 = .ok (.iconst 0, 1) := by decide +kernel
theorem dX10_init_40 : decode cX10_init 40 = .ok (.newarray .int, 2) := by decide +kernel
theorem dX10_init_42 : decode cX10_init 42 = .ok (.invokespecial 29, 3) := by decide +kernel
theorem dX10_init_45 : decode cX10_init 45 = .ok (.astore_n 1, 1) := by decide +kernel
theorem dX10_init_46 : decode cX10_init 46 = .ok (.iconst 0, 1) := by decide +kernel
theorem dX10_init_47 : decode cX10_init 47 = .ok (.istore_n 2, 1) := by decide +kernel
theorem dX10_init_48 : decode cX10_init 48 = .ok (.iload_n 2, 1) := by decide +kernel
theorem dX10_init_49 : decode cX10_init 49 = .ok (.bipush 8, 2) := by decide +kernel
theorem dX10_init_51 : decode cX10_init 51 = .ok (.if_icmp .ge 16, 3) := by decide +kernel
theorem dX10_init_54 : decode cX10_init 54 = .ok (.aload_n 0, 1) := by decide +kernel
theorem dX10_init_55 : decode cX10_init 55 = .ok (.getfield 25, 3) := by decide +kernel
theorem dX10_init_58 : decode cX10_init 58 = .ok (.iload_n 2, 1) := by decide +kernel
theorem dX10_init_59 : decode cX10_init 59 = .ok (.aload_n 1, 1) := by decide +kernel
theorem dX10_init_60 : decode cX10_init 60 = .ok (.aastore, 1) := by decide +kernel
theorem dX10_init_61 : decode cX10_init 61 = .ok (.iinc 2 1, 3) := by decide +kernel
theorem dX10_init_64 : decode cX10_init 64 = .ok (.goto (-16), 3) := by decide +kernel
theorem dX10_init_67 : decode cX10_init 67 = .ok (.aload_n 0, 1) := by decide +kernel
theorem dX10_init_68 : decode cX10_init 68 = .ok (.new 32, 3) := by decide +kernel
theorem dX10_init_71 : decode cX10_init 71 = .ok (.dup, 1) := by decide +kernel
theorem dX10_init_72 : decode cX10_init 72 = .ok (.invokespecial 34, 3) := by decide +kernel
theorem dX10_init_75 : decode cX10_init 75 = .ok (.putfield 35, 3) := by decide +kernel
theorem dX10_init_78 : decode cX10_init 78 = .ok (.aload_n 0, 1) := by decide +kernel
theorem dX10_init_79 : decode cX10_init 79 = .ok (.new 32, 3) := by decide +kernel
theorem dX10_init_82 : decode cX10_init 82 = .ok (.dup, 1) := by decide +kernel
theorem dX10_init_83 : decode cX10_init 83 = .ok (.invokespecial 34, 3) := by decide +kernel
theorem dX10_init_86 : decode cX10_init 86 = .ok (.putfield 39, 3) := by decide +kernel
theorem dX10_init_89 : decode cX10_init 89 = .ok (.aload_n 0, 1) := by decide +kernel
theorem dX10_init_90 : decode cX10_init 90 = .ok (.new 42, 3) := by decide +kernel
theorem dX10_init_93 : decode cX10_init 93 = .ok (.dup, 1) := by decide +kernel
theorem dX10_init_94 : decode cX10_init 94 = .ok (.aload_n 0, 1) := by decide +kernel
theorem dX10_init_95 : decode cX10_init 95 = .ok (.getfield 25, 3) := by decide +kernel
theorem dX10_init_98 : decode cX10_init 98 = .ok (.aload_n 0, 1) := by decide +kernel
theorem dX10_init_99 : decode cX10_init 99 = .ok (.getfield 39, 3) := by decide +kernel
theorem dX10_init_102 : decode cX10_init 102 = .ok (.invokespecial 44, 3) := by decide +kernel
theorem dX10_init_105 : decode cX10_init 105 = .ok (.putfield 47, 3) := by decide +kernel
theorem dX10_init_108 : decode cX10_init 108 = .ok (.aload_n 0, 1) := by decide +kernel
theorem dX10_init_109 : decode cX10_init 109 = .ok (.new 51, 3) := by decide +kernel
theorem dX10_init_112 : decode cX10_init 112 = .ok (.dup, 1) := by decide +kernel
theorem dX10_init_113 : decode cX10_init 113 = .ok (.invokespecial 53, 3) := by decide +kernel
theorem dX10_init_116 : decode cX10_init 116 = .ok (.putfield 54, 3) := by decide +kernel
theorem dX10_init_119 : decode cX10_init 119 = .ok (.aload_n 0, 1) := by decide +kernel
theorem dX10_init_120 : decode cX10_init 120 = .ok (.aconst_null, 1) := by decide +kernel
theorem dX10_init_121 : decode cX10_init 121 = .ok (.putfield 58, 3) := by decide +kernel
theorem dX10_init_124 : decode cX10_init 124 = .ok (.return_, 1) := by decide +kernel
theorem dX10_feed_0 : decode cX10_feed 0 = .ok (.aload_n 0, 1) := by decide +kernel
theorem dX10_feed_1 : decode cX10_feed 1 = .ok (.getfield 10, 3) := by decide +kernel
theorem dX10_feed_4 : decode cX10_feed 4 = .ok (.getfield 62, 3) := by decide +kernel
theorem dX10_feed_7 : decode cX10_feed 7 = .ok (.bipush 20, 2) := by decide +kernel
theorem dX10_feed_9 : decode cX10_feed 9 = .ok (.iadd, 1) := by decide +kernel
theorem dX10_feed_10 : decode cX10_feed 10 = .ok (.bipush 120, 2) := by decide +kernel
theorem dX10_feed_12 : decode cX10_feed 12 = .ok (.if_icmp .le 5, 3) := by decide +kernel
theorem dX10_feed_15 : decode cX10_feed 15 = .ok (.iconst (-1), 1) := by decide +kernel
theorem dX10_feed_16 : decode cX10_feed 16 = .ok (.ireturn, 1) := by decide +kernel
theorem dX10_feed_17 : decode cX10_feed 17 = .ok (.aload_n 0, 1) := by decide +kernel
theorem dX10_feed_18 : decode cX10_feed 18 = .ok (.getfield 10, 3) := by decide +kernel
theorem dX10_feed_21 : decode cX10_feed 21 = .ok (.iload_n 1, 1) := by decide +kernel
theorem dX10_feed_22 : decode cX10_feed 22 = .ok (.invokevirtual 66, 3) := by decide +kernel
theorem dX10_feed_25 : decode cX10_feed 25 = .ok (.aload_n 0, 1) := by decide +kernel
theorem dX10_feed_26 : decode cX10_feed 26 = .ok (.getfield 10, 3) := by decide +kernel
theorem dX10_feed_29 : decode cX10_feed 29 = .ok (.iload_n 2, 1) := by decide +kernel
theorem dX10_feed_30 : decode cX10_feed 30 = .ok (.invokevirtual 66, 3) := by decide +kernel
theorem dX10_feed_33 : decode cX10_feed 33 = .ok (.aload_n 0, 1) := by decide +kernel
theorem dX10_feed_34 : decode cX10_feed 34 = .ok (.getfield 10, 3) := by decide +kernel
theorem dX10_feed_37 : decode cX10_feed 37 = .ok (.iload_n 3, 1) := by decide +kernel
theorem dX10_feed_38 : decode cX10_feed 38 = .ok (.invokevirtual 66, 3) := by decide +kernel
theorem dX10_feed_41 : decode cX10_feed 41 = .ok (.aload_n 0, 1) := by decide +kernel
theorem dX10_feed_42 : decode cX10_feed 42 = .ok (.getfield 10, 3) := by decide +kernel
theorem dX10_feed_45 : decode cX10_feed 45 = .ok (.iload 4, 2) := by decide +kernel
theorem dX10_feed_47 : decode cX10_feed 47 = .ok (.invokevirtual 66, 3) := by decide +kernel
theorem dX10_feed_50 : decode cX10_feed 50 = .ok (.aload_n 0, 1) := by decide +kernel
theorem dX10_feed_51 : decode cX10_feed 51 = .ok (.getfield 10, 3) := by decide +kernel
theorem dX10_feed_54 : decode cX10_feed 54 = .ok (.iload 5, 2) := by decide +kernel
theorem dX10_feed_56 : decode cX10_feed 56 = .ok (.invokevirtual 66, 3) := by decide +kernel
theorem dX10_feed_59 : decode cX10_feed 59 = .ok (.aload_n 0, 1) := by decide +kernel
theorem dX10_feed_60 : decode cX10_feed 60 = .ok (.getfield 10, 3) := by decide +kernel
theorem dX10_feed_63 : decode cX10_feed 63 = .ok (.getfield 62, 3) := by decide +kernel
theorem dX10_feed_66 : decode cX10_feed 66 = .ok (.ireturn, 1) := by decide +kernel
theorem dX10_end_0 : decode cX10_end 0 = .ok (.iload_n 1, 1) := by decide +kernel
theorem dX10_end_1 : decode cX10_end 1 = .ok (.ifCond .lt 14, 3) := by decide +kernel
theorem dX10_end_4 : decode cX10_end 4 = .ok (.iload_n 1, 1) := by decide +kernel
theorem dX10_end_5 : decode cX10_end 5 = .ok (.aload_n 0, 1) := by decide +kernel
theorem dX10_end_6 : decode cX10_end 6 = .ok (.getfield 10, 3) := by decide +kernel
theorem dX10_end_9 : decode cX10_end 9 = .ok (.getfield 62, 3) := by decide +kernel
theorem dX10_end_12 : decode cX10_end 12 = .ok (.if_icmp .le 5, 3) := by decide +kernel
theorem dX10_end_15 : decode cX10_end 15 = .ok (.iconst (-1), 1) := by decide +kernel
theorem dX10_end_16 : decode cX10_end 16 = .ok (.ireturn, 1) := by decide +kernel
theorem dX10_end_17 : decode cX10_end 17 = .ok (.aload_n 0, 1) := by decide +kernel
theorem dX10_end_18 : decode cX10_end 18 = .ok (.getfield 10, 3) := by decide +kernel
theorem dX10_end_21 : decode cX10_end 21 = .ok (.iload_n 1, 1) := by decide +kernel
theorem dX10_end_22 : decode cX10_end 22 = .ok (.putfield 62, 3) := by decide +kernel
theorem dX10_end_25 : decode cX10_end 25 = .ok (.iload_n 1, 1) := by decide +kernel
theorem dX10_end_26 : decode cX10_end 26 = .ok (.ireturn, 1) := by decide +kernel
theorem dX10_thing_0 : decode cX10_thing 0 = .ok (.iload_n 2, 1) := by decide +kernel
theorem dX10_thing_1 : decode cX10_thing 1 = .ok (.iconst (-1), 1) := by decide +kernel
theorem dX10_thing_2 : decode cX10_thing 2 = .ok (.if_icmp .ne 13, 3) := by decide +kernel
theorem dX10_thing_5 : decode cX10_thing 5 = .ok (.aload_n 0, 1) := by decide +kernel
theorem dX10_thing_6 : decode cX10_thing 6 = .ok (.getfield 19, 3) := by decide +kernel
theorem dX10_thing_9 : decode cX10_thing 9 = .ok (.getfield 70, 3) := by decide +kernel
theorem dX10_thing_12 : decode cX10_thing 12 = .ok (.goto 11, 3) := by decide +kernel
theorem dX10_thing_15 : decode cX10_thing 15 = .ok (.aload_n 0, 1) := by decide +kernel
theorem dX10_thing_16 : decode cX10_thing 16 = .ok (.getfield 19, 3) := by decide +kernel
theorem dX10_thing_19 : decode cX10_thing 19 = .ok (.iload_n 2, 1) := by decide +kernel
theorem dX10_thing_20 : decode cX10_thing 20 = .ok (.invokevirtual 74, 3) := by decide +kernel
theorem dX10_thing_23 : decode cX10_thing 23 = .ok (.astore_n 3, 1) := by decide +kernel
theorem dX10_thing_24 : decode cX10_thing 24 = .ok (.aload_n 0, 1) := by decide +kernel
theorem dX10_thing_25 : decode cX10_thing 25 = .ok (.getfield 19, 3) := by decide +kernel
theorem dX10_thing_28 : decode cX10_thing 28 = .ok (.invokevirtual 78, 3) := by decide +kernel
theorem dX10_thing_31 : decode cX10_thing 31 = .ok (.istore 4, 2) := by decide +kernel
theorem dX10_thing_33 : decode cX10_thing 33 = .ok (.iload_n 1, 1) := by decide +kernel
theorem dX10_thing_34 : decode cX10_thing 34 = .ok (.invokestatic 82, 3) := by decide +kernel
theorem dX10_thing_37 : decode cX10_thing 37 = .ok (.ifCond .eq 32, 3) := by decide +kernel
theorem dX10_thing_40 : decode cX10_thing 40 = .ok (.aload_n 3, 1) := by decide +kernel
theorem dX10_thing_41 : decode cX10_thing 41 = .ok (.ifnull 28, 3) := by decide +kernel
theorem dX10_thing_44 : decode cX10_thing 44 = .ok (.aload_n 3, 1) := by decide +kernel
theorem dX10_thing_45 : decode cX10_thing 45 = .ok (.getfield 86, 3) := by decide +kernel
theorem dX10_thing_48 : decode cX10_thing 48 = .ok (.bipush 6, 2) := by decide +kernel
theorem dX10_thing_50 : decode cX10_thing 50 = .ok (.if_icmp .ge 19, 3) := by decide +kernel
theorem dX10_thing_53 : decode cX10_thing 53 = .ok (.iload 4, 2) := by decide +kernel
theorem dX10_thing_55 : decode cX10_thing 55 = .ok (.iconst (-1), 1) := by decide +kernel
theorem dX10_thing_56 : decode cX10_thing 56 = .ok (.if_icmp .eq 13, 3) := by decide +kernel
theorem dX10_thing_59 : decode cX10_thing 59 = .ok (.aload_n 0, 1) := by decide +kernel
theorem dX10_thing_60 : decode cX10_thing 60 = .ok (.getfield 10, 3) := by decide +kernel
theorem dX10_thing_63 : decode cX10_thing 63 = .ok (.invokevirtual 91, 3) := by decide +kernel
theorem dX10_thing_66 : decode cX10_thing 66 = .ok (.ifCond .ne 5, 3) := by decide +kernel
theorem dX10_thing_69 : decode cX10_thing 69 = .ok (.iconst (-1), 1) := by decide +kernel
theorem dX10_thing_70 : decode cX10_thing 70 = .ok (.ireturn, 1) := by decide +kernel
theorem dX10_thing_71 : decode cX10_thing 71 = .ok (.aload_n 0, 1) := by decide +kernel
theorem dX10_thing_72 : decode cX10_thing 72 = .ok (.getfield 19, 3) := by decide +kernel
theorem dX10_thing_75 : decode cX10_thing 75 = .ok (.new 87, 3) := by decide +kernel
theorem dX10_thing_78 : decode cX10_thing 78 = .ok (.dup, 1) := by decide +kernel
theorem dX10_thing_79 : decode cX10_thing 79 = .ok (.iload 4, 2) := by decide +kernel
theorem dX10_thing_81 : decode cX10_thing 81 = .ok (.iload_n 1, 1) := by decide +kernel
theorem dX10_thing_82 : decode cX10_thing 82 = .ok (.aload_n 3, 1) := by decide +kernel
theorem dX10_thing_83 : decode cX10_thing 83 = .ok (.aload_n 0, 1) := by decide +kernel
theorem dX10_thing_84 : decode cX10_thing 84 = .ok (.getfield 10, 3) := by decide +kernel
theorem dX10_thing_87 : decode cX10_thing 87 = .ok (.invokevirtual 95, 3) := by decide +kernel
theorem dX10_thing_90 : decode cX10_thing 90 = .ok (.invokespecial 99, 3) := by decide +kernel
theorem dX10_thing_93 : decode cX10_thing 93 = .ok (.invokevirtual 102, 3) := by decide +kernel
theorem dX10_thing_96 : decode cX10_thing 96 = .ok (.iload 4, 2) := by decide +kernel
theorem dX10_thing_98 : decode cX10_thing 98 = .ok (.ireturn, 1) := by decide +kernel
theorem dX10_number_0 : decode cX10_number 0 = .ok (.aload_n 0, 1) := by decide +kernel
theorem dX10_number_1 : decode cX10_number 1 = .ok (.getfield 19, 3) := by decide +kernel
theorem dX10_number_4 : decode cX10_number 4 = .ok (.iload_n 1, 1) := by decide +kernel
theorem dX10_number_5 : decode cX10_number 5 = .ok (.invokevirtual 74, 3) := by decide +kernel
theorem dX10_number_8 : decode cX10_number 8 = .ok (.astore 4, 2) := by decide +kernel
theorem dX10_number_10 : decode cX10_number 10 = .ok (.aload 4, 2) := by decide +kernel
theorem dX10_number_12 : decode cX10_number 12 = .ok (.ifnull 11, 3) := by decide +kernel
theorem dX10_number_15 : decode cX10_number 15 = .ok (.iload_n 2, 1) := by decide +kernel
theorem dX10_number_16 : decode cX10_number 16 = .ok (.iload_n 3, 1) := by decide +kernel
theorem dX10_number_17 : decode cX10_number 17 = .ok (.invokestatic 106, 3) := by decide +kernel
theorem dX10_number_20 : decode cX10_number 20 = .ok (.ifCond .ne 5, 3) := by decide +kernel
theorem dX10_number_23 : decode cX10_number 23 = .ok (.iconst 0, 1) := by decide +kernel
theorem dX10_number_24 : decode cX10_number 24 = .ok (.ireturn, 1) := by decide +kernel
theorem dX10_number_25 : decode cX10_number 25 = .ok (.aload 4, 2) := by decide +kernel
theorem dX10_number_27 : decode cX10_number 27 = .ok (.getfield 110, 3) := by decide +kernel
theorem dX10_number_30 : decode cX10_number 30 = .ok (.iload_n 2, 1) := by decide +kernel
theorem dX10_number_31 : decode cX10_number 31 = .ok (.iload_n 3, 1) := by decide +kernel
theorem dX10_number_32 : decode cX10_number 32 = .ok (.iastore, 1) := by decide +kernel
theorem dX10_number_33 : decode cX10_number 33 = .ok (.iconst 1, 1) := by decide +kernel
theorem dX10_number_34 : decode cX10_number 34 = .ok (.ireturn, 1) := by decide +kernel
theorem dX10_name_0 : decode cX10_name 0 = .ok (.aload_n 0, 1) := by decide +kernel
theorem dX10_name_1 : decode cX10_name 1 = .ok (.getfield 19, 3) := by decide +kernel
theorem dX10_name_4 : decode cX10_name 4 = .ok (.iload_n 1, 1) := by decide +kernel
theorem dX10_name_5 : decode cX10_name 5 = .ok (.invokevirtual 74, 3) := by decide +kernel
theorem dX10_name_8 : decode cX10_name 8 = .ok (.astore_n 2, 1) := by decide +kernel
theorem dX10_name_9 : decode cX10_name 9 = .ok (.aload_n 2, 1) := by decide +kernel
theorem dX10_name_10 : decode cX10_name 10 = .ok (.ifnull 13, 3) := by decide +kernel
theorem dX10_name_13 : decode cX10_name 13 = .ok (.aload_n 0, 1) := by decide +kernel
theorem dX10_name_14 : decode cX10_name 14 = .ok (.getfield 10, 3) := by decide +kernel
theorem dX10_name_17 : decode cX10_name 17 = .ok (.invokevirtual 91, 3) := by decide +kernel
theorem dX10_name_20 : decode cX10_name 20 = .ok (.ifCond .ne 5, 3) := by decide +kernel
theorem dX10_name_23 : decode cX10_name 23 = .ok (.iconst 0, 1) := by decide +kernel
theorem dX10_name_24 : decode cX10_name 24 = .ok (.ireturn, 1) := by decide +kernel
theorem dX10_name_25 : decode cX10_name 25 = .ok (.aload_n 2, 1) := by decide +kernel
theorem dX10_name_26 : decode cX10_name 26 = .ok (.aload_n 0, 1) := by decide +kernel
theorem dX10_name_27 : decode cX10_name 27 = .ok (.getfield 10, 3) := by decide +kernel
theorem dX10_name_30 : decode cX10_name 30 = .ok (.invokevirtual 95, 3) := by decide +kernel
theorem dX10_name_33 : decode cX10_name 33 = .ok (.putfield 114, 3) := by decide +kernel
theorem dX10_name_36 : decode cX10_name 36 = .ok (.iconst 1, 1) := by decide +kernel
theorem dX10_name_37 : decode cX10_name 37 = .ok (.ireturn, 1) := by decide +kernel
theorem dX10_move_0 : decode cX10_move 0 = .ok (.aload_n 0, 1) := by decide +kernel
theorem dX10_move_1 : decode cX10_move 1 = .ok (.getfield 19, 3) := by decide +kernel
theorem dX10_move_4 : decode cX10_move 4 = .ok (.iload_n 1, 1) := by decide +kernel
theorem dX10_move_5 : decode cX10_move 5 = .ok (.invokevirtual 74, 3) := by decide +kernel
theorem dX10_move_8 : decode cX10_move 8 = .ok (.astore_n 3, 1) := by decide +kernel
theorem dX10_move_9 : decode cX10_move 9 = .ok (.aload_n 3, 1) := by decide +kernel
theorem dX10_move_10 : decode cX10_move 10 = .ok (.ifnull 19, 3) := by decide +kernel
theorem dX10_move_13 : decode cX10_move 13 = .ok (.aload_n 0, 1) := by decide +kernel
theorem dX10_move_14 : decode cX10_move 14 = .ok (.getfield 19, 3) := by decide +kernel
theorem dX10_move_17 : decode cX10_move 17 = .ok (.aload_n 3, 1) := by decide +kernel
theorem dX10_move_18 : decode cX10_move 18 = .ok (.iload_n 2, 1) := by decide +kernel
theorem dX10_move_19 : decode cX10_move 19 = .ok (.invokevirtual 117, 3) := by decide +kernel
theorem dX10_move_22 : decode cX10_move 22 = .ok (.ifCond .eq 7, 3) := by decide +kernel
theorem dX10_move_25 : decode cX10_move 25 = .ok (.iconst 1, 1) := by decide +kernel
theorem dX10_move_26 : decode cX10_move 26 = .ok (.goto 4, 3) := by decide +kernel
theorem dX10_move_29 : decode cX10_move 29 = .ok (.iconst 0, 1) := by decide +kernel
theorem dX10_move_30 : decode cX10_move 30 = .ok (.ireturn, 1) := by decide +kernel
theorem dX10_drop_0 : decode cX10_drop 0 = .ok (.aload_n 0, 1) := by decide +kernel
theorem dX10_drop_1 : decode cX10_drop 1 = .ok (.getfield 19, 3) := by decide +kernel
theorem dX10_drop_4 : decode cX10_drop 4 = .ok (.iload_n 1, 1) := by decide +kernel
theorem dX10_drop_5 : decode cX10_drop 5 = .ok (.invokevirtual 74, 3) := by decide +kernel
theorem dX10_drop_8 : decode cX10_drop 8 = .ok (.astore_n 2, 1) := by decide +kernel
theorem dX10_drop_9 : decode cX10_drop 9 = .ok (.aload_n 2, 1) := by decide +kernel
theorem dX10_drop_10 : decode cX10_drop 10 = .ok (.ifnonnull 7, 3) := by decide +kernel
theorem dX10_drop_13 : decode cX10_drop 13 = .ok (.iconst (-1), 1) := by decide +kernel
theorem dX10_drop_14 : decode cX10_drop 14 = .ok (.goto 11, 3) := by decide +kernel
theorem dX10_drop_17 : decode cX10_drop 17 = .ok (.aload_n 0, 1) := by decide +kernel
theorem dX10_drop_18 : decode cX10_drop 18 = .ok (.getfield 19, 3) := by decide +kernel
theorem dX10_drop_21 : decode cX10_drop 21 = .ok (.aload_n 2, 1) := by decide +kernel
theorem dX10_drop_22 : decode cX10_drop 22 = .ok (.invokevirtual 121, 3) := by decide +kernel
theorem dX10_drop_25 : decode cX10_drop 25 = .ok (.ireturn, 1) := by decide +kernel
theorem dX10_rule_0 : decode cX10_rule 0 = .ok (.iload_n 1, 1) := by decide +kernel
theorem dX10_rule_1 : decode cX10_rule 1 = .ok (.invokestatic 82, 3) := by decide +kernel
theorem dX10_rule_4 : decode cX10_rule 4 = .ok (.ifCond .ne 5, 3) := by decide +kernel
theorem dX10_rule_7 : decode cX10_rule 7 = .ok (.iconst (-1), 1) := by decide +kernel
theorem dX10_rule_8 : decode cX10_rule 8 = .ok (.ireturn, 1) := by decide +kernel
theorem dX10_rule_9 : decode cX10_rule 9 = .ok (.new 23, 3) := by decide +kernel
theorem dX10_rule_12 : decode cX10_rule 12 = .ok (.dup, 1) := by decide +kernel
theorem dX10_rule_13 : decode cX10_rule 13 = .ok (.aload_n 0, 1) := by decide +kernel
theorem dX10_rule_14 : decode cX10_rule 14 = .ok (.getfield 10, 3) := by decide +kernel
theorem dX10_rule_17 : decode cX10_rule 17 = .ok (.invokevirtual 95, 3) := by decide +kernel
theorem dX10_rule_20 : decode cX10_rule 20 = .ok (.invokespecial 29, 3) := by decide +kernel
theorem dX10_rule_23 : decode cX10_rule 23 = .ok (.astore_n 2, 1) := by decide +kernel
theorem dX10_rule_24 : decode cX10_rule 24 = .ok (.aload_n 2, 1) := by decide +kernel
theorem dX10_rule_25 : decode cX10_rule 25 = .ok (.invokevirtual 125, 3) := by decide +kernel
theorem dX10_rule_28 : decode cX10_rule 28 = .ok (.aload_n 0, 1) := by decide +kernel
theorem dX10_rule_29 : decode cX10_rule 29 = .ok (.aload_n 2, 1) := by decide +kernel
theorem dX10_rule_30 : decode cX10_rule 30 = .ok (.putfield 58, 3) := by decide +kernel
theorem dX10_rule_33 : decode cX10_rule 33 = .ok (.aload_n 2, 1) := by decide +kernel
theorem dX10_rule_34 : decode cX10_rule 34 = .ok (.getfield 128, 3) := by decide +kernel
theorem dX10_rule_37 : decode cX10_rule 37 = .ok (.ifCond .eq 5, 3) := by decide +kernel
theorem dX10_rule_40 : decode cX10_rule 40 = .ok (.iconst (-1), 1) := by decide +kernel
theorem dX10_rule_41 : decode cX10_rule 41 = .ok (.ireturn, 1) := by decide +kernel
theorem dX10_rule_42 : decode cX10_rule 42 = .ok (.aload_n 0, 1) := by decide +kernel
theorem dX10_rule_43 : decode cX10_rule 43 = .ok (.getfield 25, 3) := by decide +kernel
theorem dX10_rule_46 : decode cX10_rule 46 = .ok (.iload_n 1, 1) := by decide +kernel
theorem dX10_rule_47 : decode cX10_rule 47 = .ok (.aload_n 2, 1) := by decide +kernel
theorem dX10_rule_48 : decode cX10_rule 48 = .ok (.aastore, 1) := by decide +kernel
theorem dX10_rule_49 : decode cX10_rule 49 = .ok (.aload_n 2, 1) := by decide +kernel
theorem dX10_rule_50 : decode cX10_rule 50 = .ok (.getfield 131, 3) := by decide +kernel
theorem dX10_rule_53 : decode cX10_rule 53 = .ok (.ireturn, 1) := by decide +kernel
theorem dX10_fault_0 : decode cX10_fault 0 = .ok (.aload_n 0, 1) := by decide +kernel
theorem dX10_fault_1 : decode cX10_fault 1 = .ok (.getfield 58, 3) := by decide +kernel
theorem dX10_fault_4 : decode cX10_fault 4 = .ok (.ifnonnull 5, 3) := by decide +kernel
theorem dX10_fault_7 : decode cX10_fault 7 = .ok (.iconst (-1), 1) := by decide +kernel
theorem dX10_fault_8 : decode cX10_fault 8 = .ok (.ireturn, 1) := by decide +kernel
theorem dX10_fault_9 : decode cX10_fault 9 = .ok (.iload_n 1, 1) := by decide +kernel
theorem dX10_fault_10 : decode cX10_fault 10 = .ok (.lookupswitch 42 #[(0, 26), (1, 34)], 26) := by decide +kernel
theorem dX10_fault_36 : decode cX10_fault 36 = .ok (.aload_n 0, 1) := by decide +kernel
theorem dX10_fault_37 : decode cX10_fault 37 = .ok (.getfield 58, 3) := by decide +kernel
theorem dX10_fault_40 : decode cX10_fault 40 = .ok (.getfield 128, 3) := by decide +kernel
theorem dX10_fault_43 : decode cX10_fault 43 = .ok (.ireturn, 1) := by decide +kernel
theorem dX10_fault_44 : decode cX10_fault 44 = .ok (.aload_n 0, 1) := by decide +kernel
theorem dX10_fault_45 : decode cX10_fault 45 = .ok (.getfield 58, 3) := by decide +kernel
theorem dX10_fault_48 : decode cX10_fault 48 = .ok (.getfield 134, 3) := by decide +kernel
theorem dX10_fault_51 : decode cX10_fault 51 = .ok (.ireturn, 1) := by decide +kernel
theorem dX10_fault_52 : decode cX10_fault 52 = .ok (.iconst (-1), 1) := by decide +kernel
theorem dX10_fault_53 : decode cX10_fault 53 = .ok (.ireturn, 1) := by decide +kernel
theorem dX10_make_0 : decode cX10_make 0 = .ok (.aload_n 0, 1) := by decide +kernel
theorem dX10_make_1 : decode cX10_make 1 = .ok (.getfield 47, 3) := by decide +kernel
theorem dX10_make_4 : decode cX10_make 4 = .ok (.aload_n 0, 1) := by decide +kernel
theorem dX10_make_5 : decode cX10_make 5 = .ok (.getfield 39, 3) := by decide +kernel
theorem dX10_make_8 : decode cX10_make 8 = .ok (.aload_n 0, 1) := by decide +kernel
theorem dX10_make_9 : decode cX10_make 9 = .ok (.getfield 19, 3) := by decide +kernel
theorem dX10_make_12 : decode cX10_make 12 = .ok (.getfield 70, 3) := by decide +kernel
theorem dX10_make_15 : decode cX10_make 15 = .ok (.invokevirtual 137, 3) := by decide +kernel
theorem dX10_make_18 : decode cX10_make 18 = .ok (.aload_n 0, 1) := by decide +kernel
theorem dX10_make_19 : decode cX10_make 19 = .ok (.getfield 39, 3) := by decide +kernel
theorem dX10_make_22 : decode cX10_make 22 = .ok (.getfield 141, 3) := by decide +kernel
theorem dX10_make_25 : decode cX10_make 25 = .ok (.ifCond .eq 7, 3) := by decide +kernel
theorem dX10_make_28 : decode cX10_make 28 = .ok (.iconst (-1), 1) := by decide +kernel
theorem dX10_make_29 : decode cX10_make 29 = .ok (.goto 7, 3) := by decide +kernel
theorem dX10_make_32 : decode cX10_make 32 = .ok (.aload_n 0, 1) := by decide +kernel
theorem dX10_make_33 : decode cX10_make 33 = .ok (.invokevirtual 145, 3) := by decide +kernel
theorem dX10_make_36 : decode cX10_make 36 = .ok (.ireturn, 1) := by decide +kernel
theorem dX10_piece_0 : decode cX10_piece 0 = .ok (.aload_n 0, 1) := by decide +kernel
theorem dX10_piece_1 : decode cX10_piece 1 = .ok (.getfield 35, 3) := by decide +kernel
theorem dX10_piece_4 : decode cX10_piece 4 = .ok (.iload_n 1, 1) := by decide +kernel
theorem dX10_piece_5 : decode cX10_piece 5 = .ok (.invokevirtual 148, 3) := by decide +kernel
theorem dX10_piece_8 : decode cX10_piece 8 = .ok (.astore_n 3, 1) := by decide +kernel
theorem dX10_piece_9 : decode cX10_piece 9 = .ok (.aload_n 3, 1) := by decide +kernel
theorem dX10_piece_10 : decode cX10_piece 10 = .ok (.ifnonnull 5, 3) := by decide +kernel
theorem dX10_piece_13 : decode cX10_piece 13 = .ok (.iconst (-1), 1) := by decide +kernel
theorem dX10_piece_14 : decode cX10_piece 14 = .ok (.ireturn, 1) := by decide +kernel
theorem dX10_piece_15 : decode cX10_piece 15 = .ok (.iload_n 2, 1) := by decide +kernel
theorem dX10_piece_16 : decode cX10_piece 16 = .ok (.tableswitch 140 0 8 #[52, 74, 79, 84, 89, 94, 107, 124, 132], 52) := by decide +kernel
theorem dX10_piece_68 : decode cX10_piece 68 = .ok (.aload_n 3, 1) := by decide +kernel
theorem dX10_piece_69 : decode cX10_piece 69 = .ok (.getfield 151, 3) := by decide +kernel
theorem dX10_piece_72 : decode cX10_piece 72 = .ok (.getfield 156, 3) := by decide +kernel
theorem dX10_piece_75 : decode cX10_piece 75 = .ok (.ifCond .eq 7, 3) := by decide +kernel
theorem dX10_piece_78 : decode cX10_piece 78 = .ok (.iconst (-1), 1) := by decide +kernel
theorem dX10_piece_79 : decode cX10_piece 79 = .ok (.goto 10, 3) := by decide +kernel
theorem dX10_piece_82 : decode cX10_piece 82 = .ok (.aload_n 3, 1) := by decide +kernel
theorem dX10_piece_83 : decode cX10_piece 83 = .ok (.getfield 151, 3) := by decide +kernel
theorem dX10_piece_86 : decode cX10_piece 86 = .ok (.getfield 159, 3) := by decide +kernel
theorem dX10_piece_89 : decode cX10_piece 89 = .ok (.ireturn, 1) := by decide +kernel
theorem dX10_piece_90 : decode cX10_piece 90 = .ok (.aload_n 3, 1) := by decide +kernel
theorem dX10_piece_91 : decode cX10_piece 91 = .ok (.getfield 162, 3) := by decide +kernel
theorem dX10_piece_94 : decode cX10_piece 94 = .ok (.ireturn, 1) := by decide +kernel
theorem dX10_piece_95 : decode cX10_piece 95 = .ok (.aload_n 3, 1) := by decide +kernel
theorem dX10_piece_96 : decode cX10_piece 96 = .ok (.getfield 165, 3) := by decide +kernel
theorem dX10_piece_99 : decode cX10_piece 99 = .ok (.ireturn, 1) := by decide +kernel
theorem dX10_piece_100 : decode cX10_piece 100 = .ok (.aload_n 3, 1) := by decide +kernel
theorem dX10_piece_101 : decode cX10_piece 101 = .ok (.invokevirtual 168, 3) := by decide +kernel
theorem dX10_piece_104 : decode cX10_piece 104 = .ok (.ireturn, 1) := by decide +kernel
theorem dX10_piece_105 : decode cX10_piece 105 = .ok (.aload_n 3, 1) := by decide +kernel
theorem dX10_piece_106 : decode cX10_piece 106 = .ok (.getfield 171, 3) := by decide +kernel
theorem dX10_piece_109 : decode cX10_piece 109 = .ok (.ireturn, 1) := by decide +kernel
theorem dX10_piece_110 : decode cX10_piece 110 = .ok (.aload_n 3, 1) := by decide +kernel
theorem dX10_piece_111 : decode cX10_piece 111 = .ok (.getfield 172, 3) := by decide +kernel
theorem dX10_piece_114 : decode cX10_piece 114 = .ok (.ifnonnull 7, 3) := by decide +kernel
theorem dX10_piece_117 : decode cX10_piece 117 = .ok (.iconst 0, 1) := by decide +kernel
theorem dX10_piece_118 : decode cX10_piece 118 = .ok (.goto 4, 3) := by decide +kernel
theorem dX10_piece_121 : decode cX10_piece 121 = .ok (.iconst 1, 1) := by decide +kernel
theorem dX10_piece_122 : decode cX10_piece 122 = .ok (.ireturn, 1) := by decide +kernel
theorem dX10_piece_123 : decode cX10_piece 123 = .ok (.aload_n 0, 1) := by decide +kernel
theorem dX10_piece_124 : decode cX10_piece 124 = .ok (.getfield 35, 3) := by decide +kernel
theorem dX10_piece_127 : decode cX10_piece 127 = .ok (.aload_n 3, 1) := by decide +kernel
theorem dX10_piece_128 : decode cX10_piece 128 = .ok (.invokevirtual 176, 3) := by decide +kernel
theorem dX10_piece_131 : decode cX10_piece 131 = .ok (.ifCond .eq 7, 3) := by decide +kernel
theorem dX10_piece_134 : decode cX10_piece 134 = .ok (.iconst 1, 1) := by decide +kernel
theorem dX10_piece_135 : decode cX10_piece 135 = .ok (.goto 4, 3) := by decide +kernel
theorem dX10_piece_138 : decode cX10_piece 138 = .ok (.iconst 0, 1) := by decide +kernel
theorem dX10_piece_139 : decode cX10_piece 139 = .ok (.ireturn, 1) := by decide +kernel
theorem dX10_piece_140 : decode cX10_piece 140 = .ok (.aload_n 3, 1) := by decide +kernel
theorem dX10_piece_141 : decode cX10_piece 141 = .ok (.getfield 151, 3) := by decide +kernel
theorem dX10_piece_144 : decode cX10_piece 144 = .ok (.getfield 86, 3) := by decide +kernel
theorem dX10_piece_147 : decode cX10_piece 147 = .ok (.ireturn, 1) := by decide +kernel
theorem dX10_piece_148 : decode cX10_piece 148 = .ok (.aload_n 3, 1) := by decide +kernel
theorem dX10_piece_149 : decode cX10_piece 149 = .ok (.getfield 151, 3) := by decide +kernel
theorem dX10_piece_152 : decode cX10_piece 152 = .ok (.getfield 180, 3) := by decide +kernel
theorem dX10_piece_155 : decode cX10_piece 155 = .ok (.ireturn, 1) := by decide +kernel
theorem dX10_piece_156 : decode cX10_piece 156 = .ok (.iconst (-1), 1) := by decide +kernel
theorem dX10_piece_157 : decode cX10_piece 157 = .ok (.ireturn, 1) := by decide +kernel
theorem dX10_byteOf_0 : decode cX10_byteOf 0 = .ok (.aload_n 0, 1) := by decide +kernel
theorem dX10_byteOf_1 : decode cX10_byteOf 1 = .ok (.getfield 35, 3) := by decide +kernel
theorem dX10_byteOf_4 : decode cX10_byteOf 4 = .ok (.iload_n 1, 1) := by decide +kernel
theorem dX10_byteOf_5 : decode cX10_byteOf 5 = .ok (.invokevirtual 148, 3) := by decide +kernel
theorem dX10_byteOf_8 : decode cX10_byteOf 8 = .ok (.astore 4, 2) := by decide +kernel
theorem dX10_byteOf_10 : decode cX10_byteOf 10 = .ok (.aload 4, 2) := by decide +kernel
theorem dX10_byteOf_12 : decode cX10_byteOf 12 = .ok (.ifnonnull 5, 3) := by decide +kernel
theorem dX10_byteOf_15 : decode cX10_byteOf 15 = .ok (.iconst (-1), 1) := by decide +kernel
theorem dX10_byteOf_16 : decode cX10_byteOf 16 = .ok (.ireturn, 1) := by decide +kernel
theorem dX10_byteOf_17 : decode cX10_byteOf 17 = .ok (.iload_n 2, 1) := by decide +kernel
theorem dX10_byteOf_18 : decode cX10_byteOf 18 = .ok (.tableswitch 73 0 2 #[26, 37, 48], 26) := by decide +kernel
theorem dX10_byteOf_44 : decode cX10_byteOf 44 = .ok (.aload_n 0, 1) := by decide +kernel
theorem dX10_byteOf_45 : decode cX10_byteOf 45 = .ok (.getfield 35, 3) := by decide +kernel
theorem dX10_byteOf_48 : decode cX10_byteOf 48 = .ok (.aload 4, 2) := by decide +kernel
theorem dX10_byteOf_50 : decode cX10_byteOf 50 = .ok (.iload_n 3, 1) := by decide +kernel
theorem dX10_byteOf_51 : decode cX10_byteOf 51 = .ok (.invokevirtual 183, 3) := by decide +kernel
theorem dX10_byteOf_54 : decode cX10_byteOf 54 = .ok (.ireturn, 1) := by decide +kernel
theorem dX10_byteOf_55 : decode cX10_byteOf 55 = .ok (.aload_n 0, 1) := by decide +kernel
theorem dX10_byteOf_56 : decode cX10_byteOf 56 = .ok (.getfield 35, 3) := by decide +kernel
theorem dX10_byteOf_59 : decode cX10_byteOf 59 = .ok (.aload 4, 2) := by decide +kernel
theorem dX10_byteOf_61 : decode cX10_byteOf 61 = .ok (.iload_n 3, 1) := by decide +kernel
theorem dX10_byteOf_62 : decode cX10_byteOf 62 = .ok (.invokevirtual 187, 3) := by decide +kernel
theorem dX10_byteOf_65 : decode cX10_byteOf 65 = .ok (.ireturn, 1) := by decide +kernel
theorem dX10_byteOf_66 : decode cX10_byteOf 66 = .ok (.aload 4, 2) := by decide +kernel
theorem dX10_byteOf_68 : decode cX10_byteOf 68 = .ok (.getfield 172, 3) := by decide +kernel
theorem dX10_byteOf_71 : decode cX10_byteOf 71 = .ok (.ifnonnull 7, 3) := by decide +kernel
theorem dX10_byteOf_74 : decode cX10_byteOf 74 = .ok (.iconst (-1), 1) := by decide +kernel
theorem dX10_byteOf_75 : decode cX10_byteOf 75 = .ok (.goto 15, 3) := by decide +kernel
theorem dX10_byteOf_78 : decode cX10_byteOf 78 = .ok (.aload 4, 2) := by decide +kernel
theorem dX10_byteOf_80 : decode cX10_byteOf 80 = .ok (.getfield 172, 3) := by decide +kernel
theorem dX10_byteOf_83 : decode cX10_byteOf 83 = .ok (.getfield 190, 3) := by decide +kernel
theorem dX10_byteOf_86 : decode cX10_byteOf 86 = .ok (.iload_n 3, 1) := by decide +kernel
theorem dX10_byteOf_87 : decode cX10_byteOf 87 = .ok (.invokestatic 195, 3) := by decide +kernel
theorem dX10_byteOf_90 : decode cX10_byteOf 90 = .ok (.ireturn, 1) := by decide +kernel
theorem dX10_byteOf_91 : decode cX10_byteOf 91 = .ok (.iconst (-1), 1) := by decide +kernel
theorem dX10_byteOf_92 : decode cX10_byteOf 92 = .ok (.ireturn, 1) := by decide +kernel
theorem dX10_hand_0 : decode cX10_hand 0 = .ok (.aload_n 0, 1) := by decide +kernel
theorem dX10_hand_1 : decode cX10_hand 1 = .ok (.getfield 35, 3) := by decide +kernel
theorem dX10_hand_4 : decode cX10_hand 4 = .ok (.iload_n 1, 1) := by decide +kernel
theorem dX10_hand_5 : decode cX10_hand 5 = .ok (.invokevirtual 148, 3) := by decide +kernel
theorem dX10_hand_8 : decode cX10_hand 8 = .ok (.astore_n 2, 1) := by decide +kernel
theorem dX10_hand_9 : decode cX10_hand 9 = .ok (.aload_n 2, 1) := by decide +kernel
theorem dX10_hand_10 : decode cX10_hand 10 = .ok (.ifnull 15, 3) := by decide +kernel
theorem dX10_hand_13 : decode cX10_hand 13 = .ok (.aload_n 0, 1) := by decide +kernel
theorem dX10_hand_14 : decode cX10_hand 14 = .ok (.getfield 10, 3) := by decide +kernel
theorem dX10_hand_17 : decode cX10_hand 17 = .ok (.getfield 62, 3) := by decide +kernel
theorem dX10_hand_20 : decode cX10_hand 20 = .ok (.bipush 60, 2) := by decide +kernel
theorem dX10_hand_22 : decode cX10_hand 22 = .ok (.if_icmp .le 5, 3) := by decide +kernel
theorem dX10_hand_25 : decode cX10_hand 25 = .ok (.iconst 0, 1) := by decide +kernel
theorem dX10_hand_26 : decode cX10_hand 26 = .ok (.ireturn, 1) := by decide +kernel
theorem dX10_hand_27 : decode cX10_hand 27 = .ok (.aload_n 0, 1) := by decide +kernel
theorem dX10_hand_28 : decode cX10_hand 28 = .ok (.getfield 10, 3) := by decide +kernel
theorem dX10_hand_31 : decode cX10_hand 31 = .ok (.invokevirtual 95, 3) := by decide +kernel
theorem dX10_hand_34 : decode cX10_hand 34 = .ok (.astore_n 3, 1) := by decide +kernel
theorem dX10_hand_35 : decode cX10_hand 35 = .ok (.aload_n 2, 1) := by decide +kernel
theorem dX10_hand_36 : decode cX10_hand 36 = .ok (.aload_n 0, 1) := by decide +kernel
theorem dX10_hand_37 : decode cX10_hand 37 = .ok (.getfield 35, 3) := by decide +kernel
theorem dX10_hand_40 : decode cX10_hand 40 = .ok (.aload_n 2, 1) := by decide +kernel
theorem dX10_hand_41 : decode cX10_hand 41 = .ok (.aload_n 3, 1) := by decide +kernel
theorem dX10_hand_42 : decode cX10_hand 42 = .ok (.invokevirtual 199, 3) := by decide +kernel
theorem dX10_hand_45 : decode cX10_hand 45 = .ok (.ifCond .eq 7, 3) := by decide +kernel
theorem dX10_hand_48 : decode cX10_hand 48 = .ok (.aconst_null, 1) := by decide +kernel
theorem dX10_hand_49 : decode cX10_hand 49 = .ok (.goto 19, 3) := by decide +kernel
theorem dX10_hand_52 : decode cX10_hand 52 = .ok (.new 191, 3) := by decide +kernel
theorem dX10_hand_55 : decode cX10_hand 55 = .ok (.dup, 1) := by decide +kernel
theorem dX10_hand_56 : decode cX10_hand 56 = .ok (.aload_n 3, 1) := by decide +kernel
theorem dX10_hand_57 : decode cX10_hand 57 = .ok (.aload_n 0, 1) := by decide +kernel
theorem dX10_hand_58 : decode cX10_hand 58 = .ok (.getfield 35, 3) := by decide +kernel
theorem dX10_hand_61 : decode cX10_hand 61 = .ok (.aload_n 2, 1) := by decide +kernel
theorem dX10_hand_62 : decode cX10_hand 62 = .ok (.invokevirtual 203, 3) := by decide +kernel
theorem dX10_hand_65 : decode cX10_hand 65 = .ok (.invokespecial 207, 3) := by decide +kernel
theorem dX10_hand_68 : decode cX10_hand 68 = .ok (.putfield 172, 3) := by decide +kernel
theorem dX10_hand_71 : decode cX10_hand 71 = .ok (.iconst 1, 1) := by decide +kernel
theorem dX10_hand_72 : decode cX10_hand 72 = .ok (.ireturn, 1) := by decide +kernel
theorem dX10_take_0 : decode cX10_take 0 = .ok (.aload_n 0, 1) := by decide +kernel
theorem dX10_take_1 : decode cX10_take 1 = .ok (.getfield 35, 3) := by decide +kernel
theorem dX10_take_4 : decode cX10_take 4 = .ok (.iload_n 1, 1) := by decide +kernel
theorem dX10_take_5 : decode cX10_take 5 = .ok (.invokevirtual 148, 3) := by decide +kernel
theorem dX10_take_8 : decode cX10_take 8 = .ok (.astore_n 3, 1) := by decide +kernel
theorem dX10_take_9 : decode cX10_take 9 = .ok (.aload_n 3, 1) := by decide +kernel
theorem dX10_take_10 : decode cX10_take 10 = .ok (.ifnull 23, 3) := by decide +kernel
theorem dX10_take_13 : decode cX10_take 13 = .ok (.iload_n 2, 1) := by decide +kernel
theorem dX10_take_14 : decode cX10_take 14 = .ok (.ifCond .lt 19, 3) := by decide +kernel
theorem dX10_take_17 : decode cX10_take 17 = .ok (.iload_n 2, 1) := by decide +kernel
theorem dX10_take_18 : decode cX10_take 18 = .ok (.iconst 1, 1) := by decide +kernel
theorem dX10_take_19 : decode cX10_take 19 = .ok (.if_icmp .gt 14, 3) := by decide +kernel
theorem dX10_take_22 : decode cX10_take 22 = .ok (.aload_n 0, 1) := by decide +kernel
theorem dX10_take_23 : decode cX10_take 23 = .ok (.getfield 35, 3) := by decide +kernel
theorem dX10_take_26 : decode cX10_take 26 = .ok (.aload_n 3, 1) := by decide +kernel
theorem dX10_take_27 : decode cX10_take 27 = .ok (.invokevirtual 176, 3) := by decide +kernel
theorem dX10_take_30 : decode cX10_take 30 = .ok (.ifCond .ne 5, 3) := by decide +kernel
theorem dX10_take_33 : decode cX10_take 33 = .ok (.iconst 0, 1) := by decide +kernel
theorem dX10_take_34 : decode cX10_take 34 = .ok (.ireturn, 1) := by decide +kernel
theorem dX10_take_35 : decode cX10_take 35 = .ok (.aload_n 3, 1) := by decide +kernel
theorem dX10_take_36 : decode cX10_take 36 = .ok (.iload_n 2, 1) := by decide +kernel
theorem dX10_take_37 : decode cX10_take 37 = .ok (.iconst 1, 1) := by decide +kernel
theorem dX10_take_38 : decode cX10_take 38 = .ok (.if_icmp .ne 7, 3) := by decide +kernel
theorem dX10_take_41 : decode cX10_take 41 = .ok (.aconst_null, 1) := by decide +kernel
theorem dX10_take_42 : decode cX10_take 42 = .ok (.goto 25, 3) := by decide +kernel
theorem dX10_take_45 : decode cX10_take 45 = .ok (.new 191, 3) := by decide +kernel
theorem dX10_take_48 : decode cX10_take 48 = .ok (.dup, 1) := by decide +kernel
theorem dX10_take_49 : decode cX10_take 49 = .ok (.aload_n 3, 1) := by decide +kernel
theorem dX10_take_50 : decode cX10_take 50 = .ok (.getfield 172, 3) := by decide +kernel
theorem dX10_take_53 : decode cX10_take 53 = .ok (.getfield 210, 3) := by decide +kernel
theorem dX10_take_56 : decode cX10_take 56 = .ok (.aload_n 0, 1) := by decide +kernel
theorem dX10_take_57 : decode cX10_take 57 = .ok (.getfield 35, 3) := by decide +kernel
theorem dX10_take_60 : decode cX10_take 60 = .ok (.aload_n 3, 1) := by decide +kernel
theorem dX10_take_61 : decode cX10_take 61 = .ok (.invokevirtual 203, 3) := by decide +kernel
theorem dX10_take_64 : decode cX10_take 64 = .ok (.invokespecial 207, 3) := by decide +kernel
theorem dX10_take_67 : decode cX10_take 67 = .ok (.putfield 172, 3) := by decide +kernel
theorem dX10_take_70 : decode cX10_take 70 = .ok (.iconst 1, 1) := by decide +kernel
theorem dX10_take_71 : decode cX10_take 71 = .ok (.ireturn, 1) := by decide +kernel
theorem dX10_back_0 : decode cX10_back 0 = .ok (.aload_n 0, 1) := by decide +kernel
theorem dX10_back_1 : decode cX10_back 1 = .ok (.getfield 35, 3) := by decide +kernel
theorem dX10_back_4 : decode cX10_back 4 = .ok (.iload_n 1, 1) := by decide +kernel
theorem dX10_back_5 : decode cX10_back 5 = .ok (.invokevirtual 148, 3) := by decide +kernel
theorem dX10_back_8 : decode cX10_back 8 = .ok (.astore_n 2, 1) := by decide +kernel
theorem dX10_back_9 : decode cX10_back 9 = .ok (.aload_n 2, 1) := by decide +kernel
theorem dX10_back_10 : decode cX10_back 10 = .ok (.ifnull 28, 3) := by decide +kernel
theorem dX10_back_13 : decode cX10_back 13 = .ok (.aload_n 2, 1) := by decide +kernel
theorem dX10_back_14 : decode cX10_back 14 = .ok (.getfield 165, 3) := by decide +kernel
theorem dX10_back_17 : decode cX10_back 17 = .ok (.iconst 2, 1) := by decide +kernel
theorem dX10_back_18 : decode cX10_back 18 = .ok (.if_icmp .ne 20, 3) := by decide +kernel
theorem dX10_back_21 : decode cX10_back 21 = .ok (.aload_n 2, 1) := by decide +kernel
theorem dX10_back_22 : decode cX10_back 22 = .ok (.getfield 172, 3) := by decide +kernel
theorem dX10_back_25 : decode cX10_back 25 = .ok (.ifnull 13, 3) := by decide +kernel
theorem dX10_back_28 : decode cX10_back 28 = .ok (.aload_n 2, 1) := by decide +kernel
theorem dX10_back_29 : decode cX10_back 29 = .ok (.getfield 151, 3) := by decide +kernel
theorem dX10_back_32 : decode cX10_back 32 = .ok (.getfield 156, 3) := by decide +kernel
theorem dX10_back_35 : decode cX10_back 35 = .ok (.ifCond .eq 5, 3) := by decide +kernel
theorem dX10_back_38 : decode cX10_back 38 = .ok (.iconst (-1), 1) := by decide +kernel
theorem dX10_back_39 : decode cX10_back 39 = .ok (.ireturn, 1) := by decide +kernel
theorem dX10_back_40 : decode cX10_back 40 = .ok (.aload_n 2, 1) := by decide +kernel
theorem dX10_back_41 : decode cX10_back 41 = .ok (.getfield 172, 3) := by decide +kernel
theorem dX10_back_44 : decode cX10_back 44 = .ok (.getfield 210, 3) := by decide +kernel
theorem dX10_back_47 : decode cX10_back 47 = .ok (.invokestatic 213, 3) := by decide +kernel
theorem dX10_back_50 : decode cX10_back 50 = .ok (.istore_n 3, 1) := by decide +kernel
theorem dX10_back_51 : decode cX10_back 51 = .ok (.iload_n 3, 1) := by decide +kernel
theorem dX10_back_52 : decode cX10_back 52 = .ok (.iconst (-1), 1) := by decide +kernel
theorem dX10_back_53 : decode cX10_back 53 = .ok (.if_icmp .eq 19, 3) := by decide +kernel
theorem dX10_back_56 : decode cX10_back 56 = .ok (.aload_n 0, 1) := by decide +kernel
theorem dX10_back_57 : decode cX10_back 57 = .ok (.aload_n 2, 1) := by decide +kernel
theorem dX10_back_58 : decode cX10_back 58 = .ok (.getfield 151, 3) := by decide +kernel
theorem dX10_back_61 : decode cX10_back 61 = .ok (.aload_n 2, 1) := by decide +kernel
theorem dX10_back_62 : decode cX10_back 62 = .ok (.getfield 217, 3) := by decide +kernel
theorem dX10_back_65 : decode cX10_back 65 = .ok (.iload_n 3, 1) := by decide +kernel
theorem dX10_back_66 : decode cX10_back 66 = .ok (.invokevirtual 220, 3) := by decide +kernel
theorem dX10_back_69 : decode cX10_back 69 = .ok (.ifCond .ne 5, 3) := by decide +kernel
theorem dX10_back_72 : decode cX10_back 72 = .ok (.iconst (-1), 1) := by decide +kernel
theorem dX10_back_73 : decode cX10_back 73 = .ok (.ireturn, 1) := by decide +kernel
theorem dX10_back_74 : decode cX10_back 74 = .ok (.aload_n 2, 1) := by decide +kernel
theorem dX10_back_75 : decode cX10_back 75 = .ok (.getfield 151, 3) := by decide +kernel
theorem dX10_back_78 : decode cX10_back 78 = .ok (.getfield 110, 3) := by decide +kernel
theorem dX10_back_81 : decode cX10_back 81 = .ok (.aload_n 2, 1) := by decide +kernel
theorem dX10_back_82 : decode cX10_back 82 = .ok (.getfield 217, 3) := by decide +kernel
theorem dX10_back_85 : decode cX10_back 85 = .ok (.iload_n 3, 1) := by decide +kernel
theorem dX10_back_86 : decode cX10_back 86 = .ok (.iastore, 1) := by decide +kernel
theorem dX10_back_87 : decode cX10_back 87 = .ok (.aload_n 2, 1) := by decide +kernel
theorem dX10_back_88 : decode cX10_back 88 = .ok (.aconst_null, 1) := by decide +kernel
theorem dX10_back_89 : decode cX10_back 89 = .ok (.putfield 172, 3) := by decide +kernel
theorem dX10_back_92 : decode cX10_back 92 = .ok (.aload_n 0, 1) := by decide +kernel
theorem dX10_back_93 : decode cX10_back 93 = .ok (.invokevirtual 145, 3) := by decide +kernel
theorem dX10_back_96 : decode cX10_back 96 = .ok (.ireturn, 1) := by decide +kernel
theorem dX10_touch_0 : decode cX10_touch 0 = .ok (.aload_n 0, 1) := by decide +kernel
theorem dX10_touch_1 : decode cX10_touch 1 = .ok (.getfield 19, 3) := by decide +kernel
theorem dX10_touch_4 : decode cX10_touch 4 = .ok (.iload_n 1, 1) := by decide +kernel
theorem dX10_touch_5 : decode cX10_touch 5 = .ok (.invokevirtual 74, 3) := by decide +kernel
theorem dX10_touch_8 : decode cX10_touch 8 = .ok (.astore 5, 2) := by decide +kernel
theorem dX10_touch_10 : decode cX10_touch 10 = .ok (.aload 5, 2) := by decide +kernel
theorem dX10_touch_12 : decode cX10_touch 12 = .ok (.ifnull 33, 3) := by decide +kernel
theorem dX10_touch_15 : decode cX10_touch 15 = .ok (.iload_n 2, 1) := by decide +kernel
theorem dX10_touch_16 : decode cX10_touch 16 = .ok (.iload_n 3, 1) := by decide +kernel
theorem dX10_touch_17 : decode cX10_touch 17 = .ok (.invokestatic 106, 3) := by decide +kernel
theorem dX10_touch_20 : decode cX10_touch 20 = .ok (.ifCond .eq 25, 3) := by decide +kernel
theorem dX10_touch_23 : decode cX10_touch 23 = .ok (.iload 4, 2) := by decide +kernel
theorem dX10_touch_25 : decode cX10_touch 25 = .ok (.ifCond .lt 20, 3) := by decide +kernel
theorem dX10_touch_28 : decode cX10_touch 28 = .ok (.iload 4, 2) := by decide +kernel
theorem dX10_touch_30 : decode cX10_touch 30 = .ok (.iconst 3, 1) := by decide +kernel
theorem dX10_touch_31 : decode cX10_touch 31 = .ok (.if_icmp .gt 14, 3) := by decide +kernel
theorem dX10_touch_34 : decode cX10_touch 34 = .ok (.aload_n 0, 1) := by decide +kernel
theorem dX10_touch_35 : decode cX10_touch 35 = .ok (.aload 5, 2) := by decide +kernel
theorem dX10_touch_37 : decode cX10_touch 37 = .ok (.iload_n 2, 1) := by decide +kernel
theorem dX10_touch_38 : decode cX10_touch 38 = .ok (.iload_n 3, 1) := by decide +kernel
theorem dX10_touch_39 : decode cX10_touch 39 = .ok (.invokevirtual 220, 3) := by decide +kernel
theorem dX10_touch_42 : decode cX10_touch 42 = .ok (.ifCond .ne 5, 3) := by decide +kernel
theorem dX10_touch_45 : decode cX10_touch 45 = .ok (.iconst (-1), 1) := by decide +kernel
theorem dX10_touch_46 : decode cX10_touch 46 = .ok (.ireturn, 1) := by decide +kernel
theorem dX10_touch_47 : decode cX10_touch 47 = .ok (.aload_n 0, 1) := by decide +kernel
theorem dX10_touch_48 : decode cX10_touch 48 = .ok (.getfield 39, 3) := by decide +kernel
theorem dX10_touch_51 : decode cX10_touch 51 = .ok (.aload_n 0, 1) := by decide +kernel
theorem dX10_touch_52 : decode cX10_touch 52 = .ok (.getfield 35, 3) := by decide +kernel
theorem dX10_touch_55 : decode cX10_touch 55 = .ok (.invokevirtual 224, 3) := by decide +kernel
theorem dX10_touch_58 : decode cX10_touch 58 = .ok (.istore 6, 2) := by decide +kernel
theorem dX10_touch_60 : decode cX10_touch 60 = .ok (.iload 4, 2) := by decide +kernel
theorem dX10_touch_62 : decode cX10_touch 62 = .ok (.tableswitch 49 0 2 #[26, 38, 46], 26) := by decide +kernel
theorem dX10_touch_88 : decode cX10_touch 88 = .ok (.aload_n 0, 1) := by decide +kernel
theorem dX10_touch_89 : decode cX10_touch 89 = .ok (.getfield 39, 3) := by decide +kernel
theorem dX10_touch_92 : decode cX10_touch 92 = .ok (.aload_n 0, 1) := by decide +kernel
theorem dX10_touch_93 : decode cX10_touch 93 = .ok (.getfield 35, 3) := by decide +kernel
theorem dX10_touch_96 : decode cX10_touch 96 = .ok (.invokevirtual 228, 3) := by decide +kernel
theorem dX10_touch_99 : decode cX10_touch 99 = .ok (.ireturn, 1) := by decide +kernel
theorem dX10_touch_100 : decode cX10_touch 100 = .ok (.aload_n 0, 1) := by decide +kernel
theorem dX10_touch_101 : decode cX10_touch 101 = .ok (.getfield 39, 3) := by decide +kernel
theorem dX10_touch_104 : decode cX10_touch 104 = .ok (.invokevirtual 231, 3) := by decide +kernel
theorem dX10_touch_107 : decode cX10_touch 107 = .ok (.ireturn, 1) := by decide +kernel
theorem dX10_touch_108 : decode cX10_touch 108 = .ok (.iload 6, 2) := by decide +kernel
theorem dX10_touch_110 : decode cX10_touch 110 = .ok (.ireturn, 1) := by decide +kernel
theorem dX10_touch_111 : decode cX10_touch 111 = .ok (.aload_n 0, 1) := by decide +kernel
theorem dX10_touch_112 : decode cX10_touch 112 = .ok (.getfield 39, 3) := by decide +kernel
theorem dX10_touch_115 : decode cX10_touch 115 = .ok (.getfield 234, 3) := by decide +kernel
theorem dX10_touch_118 : decode cX10_touch 118 = .ok (.ireturn, 1) := by decide +kernel
theorem dX10_text_0 : decode cX10_text 0 = .ok (.aload_n 0, 1) := by decide +kernel
theorem dX10_text_1 : decode cX10_text 1 = .ok (.getfield 35, 3) := by decide +kernel
theorem dX10_text_4 : decode cX10_text 4 = .ok (.iload_n 1, 1) := by decide +kernel
theorem dX10_text_5 : decode cX10_text 5 = .ok (.invokevirtual 235, 3) := by decide +kernel
theorem dX10_text_8 : decode cX10_text 8 = .ok (.istore_n 2, 1) := by decide +kernel
theorem dX10_text_9 : decode cX10_text 9 = .ok (.aload_n 0, 1) := by decide +kernel
theorem dX10_text_10 : decode cX10_text 10 = .ok (.getfield 35, 3) := by decide +kernel
theorem dX10_text_13 : decode cX10_text 13 = .ok (.iload_n 2, 1) := by decide +kernel
theorem dX10_text_14 : decode cX10_text 14 = .ok (.invokevirtual 148, 3) := by decide +kernel
theorem dX10_text_17 : decode cX10_text 17 = .ok (.astore_n 3, 1) := by decide +kernel
theorem dX10_text_18 : decode cX10_text 18 = .ok (.aload_n 3, 1) := by decide +kernel
theorem dX10_text_19 : decode cX10_text 19 = .ok (.ifnonnull 7, 3) := by decide +kernel
theorem dX10_text_22 : decode cX10_text 22 = .ok (.iconst (-1), 1) := by decide +kernel
theorem dX10_text_23 : decode cX10_text 23 = .ok (.goto 21, 3) := by decide +kernel
theorem dX10_text_26 : decode cX10_text 26 = .ok (.aload_n 0, 1) := by decide +kernel
theorem dX10_text_27 : decode cX10_text 27 = .ok (.getfield 35, 3) := by decide +kernel
theorem dX10_text_30 : decode cX10_text 30 = .ok (.aload_n 3, 1) := by decide +kernel
theorem dX10_text_31 : decode cX10_text 31 = .ok (.iload_n 1, 1) := by decide +kernel
theorem dX10_text_32 : decode cX10_text 32 = .ok (.aload_n 0, 1) := by decide +kernel
theorem dX10_text_33 : decode cX10_text 33 = .ok (.getfield 35, 3) := by decide +kernel
theorem dX10_text_36 : decode cX10_text 36 = .ok (.iload_n 2, 1) := by decide +kernel
theorem dX10_text_37 : decode cX10_text 37 = .ok (.invokevirtual 239, 3) := by decide +kernel
theorem dX10_text_40 : decode cX10_text 40 = .ok (.isub, 1) := by decide +kernel
theorem dX10_text_41 : decode cX10_text 41 = .ok (.invokevirtual 183, 3) := by decide +kernel
theorem dX10_text_44 : decode cX10_text 44 = .ok (.ireturn, 1) := by decide +kernel
theorem dX10_maker_0 : decode cX10_maker 0 = .ok (.aload_n 0, 1) := by decide +kernel
theorem dX10_maker_1 : decode cX10_maker 1 = .ok (.getfield 35, 3) := by decide +kernel
theorem dX10_maker_4 : decode cX10_maker 4 = .ok (.iload_n 1, 1) := by decide +kernel
theorem dX10_maker_5 : decode cX10_maker 5 = .ok (.invokevirtual 235, 3) := by decide +kernel
theorem dX10_maker_8 : decode cX10_maker 8 = .ok (.ireturn, 1) := by decide +kernel
theorem dX10_lone_0 : decode cX10_lone 0 = .ok (.aload_n 0, 1) := by decide +kernel
theorem dX10_lone_1 : decode cX10_lone 1 = .ok (.getfield 54, 3) := by decide +kernel
theorem dX10_lone_4 : decode cX10_lone 4 = .ok (.iload_n 1, 1) := by decide +kernel
theorem dX10_lone_5 : decode cX10_lone 5 = .ok (.invokevirtual 242, 3) := by decide +kernel
theorem dX10_lone_8 : decode cX10_lone 8 = .ok (.astore 4, 2) := by decide +kernel
theorem dX10_lone_10 : decode cX10_lone 10 = .ok (.aload 4, 2) := by decide +kernel
theorem dX10_lone_12 : decode cX10_lone 12 = .ok (.ifnonnull 5, 3) := by decide +kernel
theorem dX10_lone_15 : decode cX10_lone 15 = .ok (.iconst (-1), 1) := by decide +kernel
theorem dX10_lone_16 : decode cX10_lone 16 = .ok (.ireturn, 1) := by decide +kernel
theorem dX10_lone_17 : decode cX10_lone 17 = .ok (.iload_n 2, 1) := by decide +kernel
theorem dX10_lone_18 : decode cX10_lone 18 = .ok (.tableswitch 59 0 3 #[30, 40, 46, 52], 30) := by decide +kernel
theorem dX10_lone_48 : decode cX10_lone 48 = .ok (.aload 4, 2) := by decide +kernel
theorem dX10_lone_50 : decode cX10_lone 50 = .ok (.getfield 245, 3) := by decide +kernel
theorem dX10_lone_53 : decode cX10_lone 53 = .ok (.iload_n 3, 1) := by decide +kernel
theorem dX10_lone_54 : decode cX10_lone 54 = .ok (.invokestatic 195, 3) := by decide +kernel
theorem dX10_lone_57 : decode cX10_lone 57 = .ok (.ireturn, 1) := by decide +kernel
theorem dX10_lone_58 : decode cX10_lone 58 = .ok (.aload 4, 2) := by decide +kernel
theorem dX10_lone_60 : decode cX10_lone 60 = .ok (.getfield 248, 3) := by decide +kernel
theorem dX10_lone_63 : decode cX10_lone 63 = .ok (.ireturn, 1) := by decide +kernel
theorem dX10_lone_64 : decode cX10_lone 64 = .ok (.aload 4, 2) := by decide +kernel
theorem dX10_lone_66 : decode cX10_lone 66 = .ok (.getfield 249, 3) := by decide +kernel
theorem dX10_lone_69 : decode cX10_lone 69 = .ok (.ireturn, 1) := by decide +kernel
theorem dX10_lone_70 : decode cX10_lone 70 = .ok (.aload 4, 2) := by decide +kernel
theorem dX10_lone_72 : decode cX10_lone 72 = .ok (.getfield 245, 3) := by decide +kernel
theorem dX10_lone_75 : decode cX10_lone 75 = .ok (.arraylength, 1) := by decide +kernel
theorem dX10_lone_76 : decode cX10_lone 76 = .ok (.ireturn, 1) := by decide +kernel
theorem dX10_lone_77 : decode cX10_lone 77 = .ok (.iconst (-1), 1) := by decide +kernel
theorem dX10_lone_78 : decode cX10_lone 78 = .ok (.ireturn, 1) := by decide +kernel
theorem dX10_drops_0 : decode cX10_drops 0 = .ok (.aload_n 0, 1) := by decide +kernel
theorem dX10_drops_1 : decode cX10_drops 1 = .ok (.getfield 54, 3) := by decide +kernel
theorem dX10_drops_4 : decode cX10_drops 4 = .ok (.iload_n 1, 1) := by decide +kernel
theorem dX10_drops_5 : decode cX10_drops 5 = .ok (.invokevirtual 250, 3) := by decide +kernel
theorem dX10_drops_8 : decode cX10_drops 8 = .ok (.ireturn, 1) := by decide +kernel
theorem dX10_thingOf_0 : decode cX10_thingOf 0 = .ok (.aload_n 0, 1) := by decide +kernel
theorem dX10_thingOf_1 : decode cX10_thingOf 1 = .ok (.getfield 19, 3) := by decide +kernel
theorem dX10_thingOf_4 : decode cX10_thingOf 4 = .ok (.iload_n 1, 1) := by decide +kernel
theorem dX10_thingOf_5 : decode cX10_thingOf 5 = .ok (.invokevirtual 74, 3) := by decide +kernel
theorem dX10_thingOf_8 : decode cX10_thingOf 8 = .ok (.astore_n 3, 1) := by decide +kernel
theorem dX10_thingOf_9 : decode cX10_thingOf 9 = .ok (.aload_n 3, 1) := by decide +kernel
theorem dX10_thingOf_10 : decode cX10_thingOf 10 = .ok (.ifnonnull 5, 3) := by decide +kernel
theorem dX10_thingOf_13 : decode cX10_thingOf 13 = .ok (.iconst (-1), 1) := by decide +kernel
theorem dX10_thingOf_14 : decode cX10_thingOf 14 = .ok (.ireturn, 1) := by decide +kernel
theorem dX10_thingOf_15 : decode cX10_thingOf 15 = .ok (.iload_n 2, 1) := by decide +kernel
theorem dX10_thingOf_16 : decode cX10_thingOf 16 = .ok (.tableswitch 71 0 3 #[32, 37, 56, 65], 32) := by decide +kernel
theorem dX10_thingOf_48 : decode cX10_thingOf 48 = .ok (.aload_n 3, 1) := by decide +kernel
theorem dX10_thingOf_49 : decode cX10_thingOf 49 = .ok (.getfield 180, 3) := by decide +kernel
theorem dX10_thingOf_52 : decode cX10_thingOf 52 = .ok (.ireturn, 1) := by decide +kernel
theorem dX10_thingOf_53 : decode cX10_thingOf 53 = .ok (.aload_n 3, 1) := by decide +kernel
theorem dX10_thingOf_54 : decode cX10_thingOf 54 = .ok (.getfield 252, 3) := by decide +kernel
theorem dX10_thingOf_57 : decode cX10_thingOf 57 = .ok (.ifnonnull 7, 3) := by decide +kernel
theorem dX10_thingOf_60 : decode cX10_thingOf 60 = .ok (.iconst (-1), 1) := by decide +kernel
theorem dX10_thingOf_61 : decode cX10_thingOf 61 = .ok (.goto 10, 3) := by decide +kernel
theorem dX10_thingOf_64 : decode cX10_thingOf 64 = .ok (.aload_n 3, 1) := by decide +kernel
theorem dX10_thingOf_65 : decode cX10_thingOf 65 = .ok (.getfield 252, 3) := by decide +kernel
theorem dX10_thingOf_68 : decode cX10_thingOf 68 = .ok (.getfield 159, 3) := by decide +kernel
theorem dX10_thingOf_71 : decode cX10_thingOf 71 = .ok (.ireturn, 1) := by decide +kernel
theorem dX10_thingOf_72 : decode cX10_thingOf 72 = .ok (.aload_n 0, 1) := by decide +kernel
theorem dX10_thingOf_73 : decode cX10_thingOf 73 = .ok (.getfield 19, 3) := by decide +kernel
theorem dX10_thingOf_76 : decode cX10_thingOf 76 = .ok (.aload_n 3, 1) := by decide +kernel
theorem dX10_thingOf_77 : decode cX10_thingOf 77 = .ok (.invokevirtual 255, 3) := by decide +kernel
theorem dX10_thingOf_80 : decode cX10_thingOf 80 = .ok (.ireturn, 1) := by decide +kernel
theorem dX10_thingOf_81 : decode cX10_thingOf 81 = .ok (.aload_n 3, 1) := by decide +kernel
theorem dX10_thingOf_82 : decode cX10_thingOf 82 = .ok (.getfield 114, 3) := by decide +kernel
theorem dX10_thingOf_85 : decode cX10_thingOf 85 = .ok (.arraylength, 1) := by decide +kernel
theorem dX10_thingOf_86 : decode cX10_thingOf 86 = .ok (.ireturn, 1) := by decide +kernel
theorem dX10_thingOf_87 : decode cX10_thingOf 87 = .ok (.iload_n 2, 1) := by decide +kernel
theorem dX10_thingOf_88 : decode cX10_thingOf 88 = .ok (.bipush 100, 2) := by decide +kernel
theorem dX10_thingOf_90 : decode cX10_thingOf 90 = .ok (.if_icmp .ge 17, 3) := by decide +kernel
theorem dX10_thingOf_93 : decode cX10_thingOf 93 = .ok (.aload_n 3, 1) := by decide +kernel
theorem dX10_thingOf_94 : decode cX10_thingOf 94 = .ok (.getfield 110, 3) := by decide +kernel
theorem dX10_thingOf_97 : decode cX10_thingOf 97 = .ok (.iload_n 2, 1) := by decide +kernel
theorem dX10_thingOf_98 : decode cX10_thingOf 98 = .ok (.bipush 10, 2) := by decide +kernel
theorem dX10_thingOf_100 : decode cX10_thingOf 100 = .ok (.isub, 1) := by decide +kernel
theorem dX10_thingOf_101 : decode cX10_thingOf 101 = .ok (.invokestatic 195, 3) := by decide +kernel
theorem dX10_thingOf_104 : decode cX10_thingOf 104 = .ok (.goto 14, 3) := by decide +kernel
theorem dX10_thingOf_107 : decode cX10_thingOf 107 = .ok (.aload_n 3, 1) := by decide +kernel
theorem dX10_thingOf_108 : decode cX10_thingOf 108 = .ok (.getfield 114, 3) := by decide +kernel
theorem dX10_thingOf_111 : decode cX10_thingOf 111 = .ok (.iload_n 2, 1) := by decide +kernel
theorem dX10_thingOf_112 : decode cX10_thingOf 112 = .ok (.bipush 100, 2) := by decide +kernel
theorem dX10_thingOf_114 : decode cX10_thingOf 114 = .ok (.isub, 1) := by decide +kernel
theorem dX10_thingOf_115 : decode cX10_thingOf 115 = .ok (.invokestatic 195, 3) := by decide +kernel
theorem dX10_thingOf_118 : decode cX10_thingOf 118 = .ok (.ireturn, 1) := by decide +kernel
theorem dX10_about_0 : decode cX10_about 0 = .ok (.iload_n 1, 1) := by decide +kernel
theorem dX10_about_1 : decode cX10_about 1 = .ok (.tableswitch 109 0 6 #[43, 51, 59, 74, 82, 93, 101], 43) := by decide +kernel
theorem dX10_about_44 : decode cX10_about 44 = .ok (.aload_n 0, 1) := by decide +kernel
theorem dX10_about_45 : decode cX10_about 45 = .ok (.getfield 19, 3) := by decide +kernel
theorem dX10_about_48 : decode cX10_about 48 = .ok (.getfield 258, 3) := by decide +kernel
theorem dX10_about_51 : decode cX10_about 51 = .ok (.ireturn, 1) := by decide +kernel
theorem dX10_about_52 : decode cX10_about 52 = .ok (.aload_n 0, 1) := by decide +kernel
theorem dX10_about_53 : decode cX10_about 53 = .ok (.getfield 35, 3) := by decide +kernel
theorem dX10_about_56 : decode cX10_about 56 = .ok (.getfield 234, 3) := by decide +kernel
theorem dX10_about_59 : decode cX10_about 59 = .ok (.ireturn, 1) := by decide +kernel
theorem dX10_about_60 : decode cX10_about 60 = .ok (.aload_n 0, 1) := by decide +kernel
theorem dX10_about_61 : decode cX10_about 61 = .ok (.getfield 35, 3) := by decide +kernel
theorem dX10_about_64 : decode cX10_about 64 = .ok (.aload_n 0, 1) := by decide +kernel
theorem dX10_about_65 : decode cX10_about 65 = .ok (.getfield 35, 3) := by decide +kernel
theorem dX10_about_68 : decode cX10_about 68 = .ok (.getfield 234, 3) := by decide +kernel
theorem dX10_about_71 : decode cX10_about 71 = .ok (.invokevirtual 239, 3) := by decide +kernel
theorem dX10_about_74 : decode cX10_about 74 = .ok (.ireturn, 1) := by decide +kernel
theorem dX10_about_75 : decode cX10_about 75 = .ok (.aload_n 0, 1) := by decide +kernel
theorem dX10_about_76 : decode cX10_about 76 = .ok (.getfield 35, 3) := by decide +kernel
theorem dX10_about_79 : decode cX10_about 79 = .ok (.invokevirtual 231, 3) := by decide +kernel
theorem dX10_about_82 : decode cX10_about 82 = .ok (.ireturn, 1) := by decide +kernel
theorem dX10_about_83 : decode cX10_about 83 = .ok (.aload_n 0, 1) := by decide +kernel
theorem dX10_about_84 : decode cX10_about 84 = .ok (.getfield 54, 3) := by decide +kernel
theorem dX10_about_87 : decode cX10_about 87 = .ok (.getfield 259, 3) := by decide +kernel
theorem dX10_about_90 : decode cX10_about 90 = .ok (.invokevirtual 263, 3) := by decide +kernel
theorem dX10_about_93 : decode cX10_about 93 = .ok (.ireturn, 1) := by decide +kernel
theorem dX10_about_94 : decode cX10_about 94 = .ok (.aload_n 0, 1) := by decide +kernel
theorem dX10_about_95 : decode cX10_about 95 = .ok (.getfield 54, 3) := by decide +kernel
end
section
theorem dX10_about_98 : decode cX10_about 98 = .ok (.getfield 268, 3) := by decide +kernel
theorem dX10_about_101 : decode cX10_about 101 = .ok (.ireturn, 1) := by decide +kernel
theorem dX10_about_102 : decode cX10_about 102 = .ok (.aload_n 0, 1) := by decide +kernel
theorem dX10_about_103 : decode cX10_about 103 = .ok (.getfield 10, 3) := by decide +kernel
theorem dX10_about_106 : decode cX10_about 106 = .ok (.getfield 62, 3) := by decide +kernel
theorem dX10_about_109 : decode cX10_about 109 = .ok (.ireturn, 1) := by decide +kernel
theorem dX10_about_110 : decode cX10_about 110 = .ok (.iload_n 1, 1) := by decide +kernel
theorem dX10_about_111 : decode cX10_about 111 = .ok (.bipush 10, 2) := by decide +kernel
theorem dX10_about_113 : decode cX10_about 113 = .ok (.if_icmp .lt 24, 3) := by decide +kernel
theorem dX10_about_116 : decode cX10_about 116 = .ok (.iload_n 1, 1) := by decide +kernel
theorem dX10_about_117 : decode cX10_about 117 = .ok (.bipush 18, 2) := by decide +kernel
theorem dX10_about_119 : decode cX10_about 119 = .ok (.if_icmp .ge 18, 3) := by decide +kernel
theorem dX10_about_122 : decode cX10_about 122 = .ok (.aload_n 0, 1) := by decide +kernel
theorem dX10_about_123 : decode cX10_about 123 = .ok (.getfield 25, 3) := by decide +kernel
theorem dX10_about_126 : decode cX10_about 126 = .ok (.iload_n 1, 1) := by decide +kernel
theorem dX10_about_127 : decode cX10_about 127 = .ok (.bipush 10, 2) := by decide +kernel
theorem dX10_about_129 : decode cX10_about 129 = .ok (.isub, 1) := by decide +kernel
theorem dX10_about_130 : decode cX10_about 130 = .ok (.aaload, 1) := by decide +kernel
theorem dX10_about_131 : decode cX10_about 131 = .ok (.getfield 131, 3) := by decide +kernel
theorem dX10_about_134 : decode cX10_about 134 = .ok (.goto 4, 3) := by decide +kernel
theorem dX10_about_137 : decode cX10_about 137 = .ok (.iconst (-1), 1) := by decide +kernel
theorem dX10_about_138 : decode cX10_about 138 = .ok (.ireturn, 1) := by decide +kernel
theorem dX10_fillSpareWith_0 : decode cX10_fillSpareWith 0 = .ok (.aload_n 1, 1) := by decide +kernel
theorem dX10_fillSpareWith_1 : decode cX10_fillSpareWith 1 = .ok (.getfield 110, 3) := by decide +kernel
theorem dX10_fillSpareWith_4 : decode cX10_fillSpareWith 4 = .ok (.iload_n 2, 1) := by decide +kernel
theorem dX10_fillSpareWith_5 : decode cX10_fillSpareWith 5 = .ok (.iaload, 1) := by decide +kernel
theorem dX10_fillSpareWith_6 : decode cX10_fillSpareWith 6 = .ok (.istore 4, 2) := by decide +kernel
theorem dX10_fillSpareWith_8 : decode cX10_fillSpareWith 8 = .ok (.aload_n 1, 1) := by decide +kernel
theorem dX10_fillSpareWith_9 : decode cX10_fillSpareWith 9 = .ok (.getfield 110, 3) := by decide +kernel
theorem dX10_fillSpareWith_12 : decode cX10_fillSpareWith 12 = .ok (.iload_n 2, 1) := by decide +kernel
theorem dX10_fillSpareWith_13 : decode cX10_fillSpareWith 13 = .ok (.iload_n 3, 1) := by decide +kernel
theorem dX10_fillSpareWith_14 : decode cX10_fillSpareWith 14 = .ok (.iastore, 1) := by decide +kernel
theorem dX10_fillSpareWith_15 : decode cX10_fillSpareWith 15 = .ok (.aload_n 0, 1) := by decide +kernel
theorem dX10_fillSpareWith_16 : decode cX10_fillSpareWith 16 = .ok (.getfield 47, 3) := by decide +kernel
theorem dX10_fillSpareWith_19 : decode cX10_fillSpareWith 19 = .ok (.aload_n 0, 1) := by decide +kernel
theorem dX10_fillSpareWith_20 : decode cX10_fillSpareWith 20 = .ok (.getfield 39, 3) := by decide +kernel
theorem dX10_fillSpareWith_23 : decode cX10_fillSpareWith 23 = .ok (.aload_n 0, 1) := by decide +kernel
theorem dX10_fillSpareWith_24 : decode cX10_fillSpareWith 24 = .ok (.getfield 19, 3) := by decide +kernel
theorem dX10_fillSpareWith_27 : decode cX10_fillSpareWith 27 = .ok (.getfield 70, 3) := by decide +kernel
theorem dX10_fillSpareWith_30 : decode cX10_fillSpareWith 30 = .ok (.invokevirtual 137, 3) := by decide +kernel
theorem dX10_fillSpareWith_33 : decode cX10_fillSpareWith 33 = .ok (.aload_n 1, 1) := by decide +kernel
theorem dX10_fillSpareWith_34 : decode cX10_fillSpareWith 34 = .ok (.getfield 110, 3) := by decide +kernel
theorem dX10_fillSpareWith_37 : decode cX10_fillSpareWith 37 = .ok (.iload_n 2, 1) := by decide +kernel
theorem dX10_fillSpareWith_38 : decode cX10_fillSpareWith 38 = .ok (.iload 4, 2) := by decide +kernel
theorem dX10_fillSpareWith_40 : decode cX10_fillSpareWith 40 = .ok (.iastore, 1) := by decide +kernel
theorem dX10_fillSpareWith_41 : decode cX10_fillSpareWith 41 = .ok (.aload_n 0, 1) := by decide +kernel
theorem dX10_fillSpareWith_42 : decode cX10_fillSpareWith 42 = .ok (.getfield 39, 3) := by decide +kernel
theorem dX10_fillSpareWith_45 : decode cX10_fillSpareWith 45 = .ok (.getfield 141, 3) := by decide +kernel
theorem dX10_fillSpareWith_48 : decode cX10_fillSpareWith 48 = .ok (.ifCond .ne 7, 3) := by decide +kernel
theorem dX10_fillSpareWith_51 : decode cX10_fillSpareWith 51 = .ok (.iconst 1, 1) := by decide +kernel
theorem dX10_fillSpareWith_52 : decode cX10_fillSpareWith 52 = .ok (.goto 4, 3) := by decide +kernel
theorem dX10_fillSpareWith_55 : decode cX10_fillSpareWith 55 = .ok (.iconst 0, 1) := by decide +kernel
theorem dX10_fillSpareWith_56 : decode cX10_fillSpareWith 56 = .ok (.ireturn, 1) := by decide +kernel
theorem dX10_turnToSpare_0 : decode cX10_turnToSpare 0 = .ok (.aload_n 0, 1) := by decide +kernel
theorem dX10_turnToSpare_1 : decode cX10_turnToSpare 1 = .ok (.getfield 39, 3) := by decide +kernel
theorem dX10_turnToSpare_4 : decode cX10_turnToSpare 4 = .ok (.aload_n 0, 1) := by decide +kernel
theorem dX10_turnToSpare_5 : decode cX10_turnToSpare 5 = .ok (.getfield 35, 3) := by decide +kernel
theorem dX10_turnToSpare_8 : decode cX10_turnToSpare 8 = .ok (.invokevirtual 224, 3) := by decide +kernel
theorem dX10_turnToSpare_11 : decode cX10_turnToSpare 11 = .ok (.pop, 1) := by decide +kernel
theorem dX10_turnToSpare_12 : decode cX10_turnToSpare 12 = .ok (.aload_n 0, 1) := by decide +kernel
theorem dX10_turnToSpare_13 : decode cX10_turnToSpare 13 = .ok (.getfield 54, 3) := by decide +kernel
theorem dX10_turnToSpare_16 : decode cX10_turnToSpare 16 = .ok (.aload_n 0, 1) := by decide +kernel
theorem dX10_turnToSpare_17 : decode cX10_turnToSpare 17 = .ok (.getfield 35, 3) := by decide +kernel
theorem dX10_turnToSpare_20 : decode cX10_turnToSpare 20 = .ok (.invokevirtual 271, 3) := by decide +kernel
theorem dX10_turnToSpare_23 : decode cX10_turnToSpare 23 = .ok (.aload_n 0, 1) := by decide +kernel
theorem dX10_turnToSpare_24 : decode cX10_turnToSpare 24 = .ok (.getfield 35, 3) := by decide +kernel
theorem dX10_turnToSpare_27 : decode cX10_turnToSpare 27 = .ok (.astore_n 1, 1) := by decide +kernel
theorem dX10_turnToSpare_28 : decode cX10_turnToSpare 28 = .ok (.aload_n 0, 1) := by decide +kernel
theorem dX10_turnToSpare_29 : decode cX10_turnToSpare 29 = .ok (.aload_n 0, 1) := by decide +kernel
theorem dX10_turnToSpare_30 : decode cX10_turnToSpare 30 = .ok (.getfield 39, 3) := by decide +kernel
theorem dX10_turnToSpare_33 : decode cX10_turnToSpare 33 = .ok (.putfield 35, 3) := by decide +kernel
theorem dX10_turnToSpare_36 : decode cX10_turnToSpare 36 = .ok (.aload_n 0, 1) := by decide +kernel
theorem dX10_turnToSpare_37 : decode cX10_turnToSpare 37 = .ok (.aload_n 1, 1) := by decide +kernel
theorem dX10_turnToSpare_38 : decode cX10_turnToSpare 38 = .ok (.putfield 39, 3) := by decide +kernel
theorem dX10_turnToSpare_41 : decode cX10_turnToSpare 41 = .ok (.aload_n 0, 1) := by decide +kernel
theorem dX10_turnToSpare_42 : decode cX10_turnToSpare 42 = .ok (.getfield 35, 3) := by decide +kernel
theorem dX10_turnToSpare_45 : decode cX10_turnToSpare 45 = .ok (.getfield 234, 3) := by decide +kernel
theorem dX10_turnToSpare_48 : decode cX10_turnToSpare 48 = .ok (.ireturn, 1) := by decide +kernel
theorem dX10_isKind_0 : decode cX10_isKind 0 = .ok (.iload_n 0, 1) := by decide +kernel
theorem dX10_isKind_1 : decode cX10_isKind 1 = .ok (.ifCond .lt 13, 3) := by decide +kernel
theorem dX10_isKind_4 : decode cX10_isKind 4 = .ok (.iload_n 0, 1) := by decide +kernel
theorem dX10_isKind_5 : decode cX10_isKind 5 = .ok (.bipush 8, 2) := by decide +kernel
theorem dX10_isKind_7 : decode cX10_isKind 7 = .ok (.if_icmp .ge 7, 3) := by decide +kernel
theorem dX10_isKind_10 : decode cX10_isKind 10 = .ok (.iconst 1, 1) := by decide +kernel
theorem dX10_isKind_11 : decode cX10_isKind 11 = .ok (.goto 4, 3) := by decide +kernel
theorem dX10_isKind_14 : decode cX10_isKind 14 = .ok (.iconst 0, 1) := by decide +kernel
theorem dX10_isKind_15 : decode cX10_isKind 15 = .ok (.ireturn, 1) := by decide +kernel
theorem dX10_canBeNumber_0 : decode cX10_canBeNumber 0 = .ok (.iload_n 0, 1) := by decide +kernel
theorem dX10_canBeNumber_1 : decode cX10_canBeNumber 1 = .ok (.ifCond .lt 23, 3) := by decide +kernel
theorem dX10_canBeNumber_4 : decode cX10_canBeNumber 4 = .ok (.iload_n 0, 1) := by decide +kernel
theorem dX10_canBeNumber_5 : decode cX10_canBeNumber 5 = .ok (.iconst 4, 1) := by decide +kernel
theorem dX10_canBeNumber_6 : decode cX10_canBeNumber 6 = .ok (.if_icmp .ge 18, 3) := by decide +kernel
theorem dX10_canBeNumber_9 : decode cX10_canBeNumber 9 = .ok (.iload_n 1, 1) := by decide +kernel
theorem dX10_canBeNumber_10 : decode cX10_canBeNumber 10 = .ok (.ifCond .lt 14, 3) := by decide +kernel
theorem dX10_canBeNumber_13 : decode cX10_canBeNumber 13 = .ok (.iload_n 1, 1) := by decide +kernel
theorem dX10_canBeNumber_14 : decode cX10_canBeNumber 14 = .ok (.ldc_w 275, 3) := by decide +kernel
theorem dX10_canBeNumber_17 : decode cX10_canBeNumber 17 = .ok (.if_icmp .gt 7, 3) := by decide +kernel
theorem dX10_canBeNumber_20 : decode cX10_canBeNumber 20 = .ok (.iconst 1, 1) := by decide +kernel
theorem dX10_canBeNumber_21 : decode cX10_canBeNumber 21 = .ok (.goto 4, 3) := by decide +kernel
theorem dX10_canBeNumber_24 : decode cX10_canBeNumber 24 = .ok (.iconst 0, 1) := by decide +kernel
theorem dX10_canBeNumber_25 : decode cX10_canBeNumber 25 = .ok (.ireturn, 1) := by decide +kernel
theorem dX10_elementOf_0 : decode cX10_elementOf 0 = .ok (.iload_n 1, 1) := by decide +kernel
theorem dX10_elementOf_1 : decode cX10_elementOf 1 = .ok (.ifCond .lt 15, 3) := by decide +kernel
theorem dX10_elementOf_4 : decode cX10_elementOf 4 = .ok (.iload_n 1, 1) := by decide +kernel
theorem dX10_elementOf_5 : decode cX10_elementOf 5 = .ok (.aload_n 0, 1) := by decide +kernel
theorem dX10_elementOf_6 : decode cX10_elementOf 6 = .ok (.arraylength, 1) := by decide +kernel
theorem dX10_elementOf_7 : decode cX10_elementOf 7 = .ok (.if_icmp .ge 9, 3) := by decide +kernel
theorem dX10_elementOf_10 : decode cX10_elementOf 10 = .ok (.aload_n 0, 1) := by decide +kernel
theorem dX10_elementOf_11 : decode cX10_elementOf 11 = .ok (.iload_n 1, 1) := by decide +kernel
theorem dX10_elementOf_12 : decode cX10_elementOf 12 = .ok (.iaload, 1) := by decide +kernel
theorem dX10_elementOf_13 : decode cX10_elementOf 13 = .ok (.goto 4, 3) := by decide +kernel
theorem dX10_elementOf_16 : decode cX10_elementOf 16 = .ok (.iconst (-1), 1) := by decide +kernel
theorem dX10_elementOf_17 : decode cX10_elementOf 17 = .ok (.ireturn, 1) := by decide +kernel
theorem dX10_valueOf_0 : decode cX10_valueOf 0 = .ok (.aload_n 0, 1) := by decide +kernel
theorem dX10_valueOf_1 : decode cX10_valueOf 1 = .ok (.arraylength, 1) := by decide +kernel
theorem dX10_valueOf_2 : decode cX10_valueOf 2 = .ok (.ifCond .eq 23, 3) := by decide +kernel
theorem dX10_valueOf_5 : decode cX10_valueOf 5 = .ok (.aload_n 0, 1) := by decide +kernel
theorem dX10_valueOf_6 : decode cX10_valueOf 6 = .ok (.arraylength, 1) := by decide +kernel
theorem dX10_valueOf_7 : decode cX10_valueOf 7 = .ok (.iconst 5, 1) := by decide +kernel
theorem dX10_valueOf_8 : decode cX10_valueOf 8 = .ok (.if_icmp .gt 17, 3) := by decide +kernel
theorem dX10_valueOf_11 : decode cX10_valueOf 11 = .ok (.aload_n 0, 1) := by decide +kernel
theorem dX10_valueOf_12 : decode cX10_valueOf 12 = .ok (.iconst 0, 1) := by decide +kernel
theorem dX10_valueOf_13 : decode cX10_valueOf 13 = .ok (.iaload, 1) := by decide +kernel
theorem dX10_valueOf_14 : decode cX10_valueOf 14 = .ok (.bipush 48, 2) := by decide +kernel
theorem dX10_valueOf_16 : decode cX10_valueOf 16 = .ok (.if_icmp .ne 11, 3) := by decide +kernel
theorem dX10_valueOf_19 : decode cX10_valueOf 19 = .ok (.aload_n 0, 1) := by decide +kernel
theorem dX10_valueOf_20 : decode cX10_valueOf 20 = .ok (.arraylength, 1) := by decide +kernel
theorem dX10_valueOf_21 : decode cX10_valueOf 21 = .ok (.iconst 1, 1) := by decide +kernel
theorem dX10_valueOf_22 : decode cX10_valueOf 22 = .ok (.if_icmp .le 5, 3) := by decide +kernel
theorem dX10_valueOf_25 : decode cX10_valueOf 25 = .ok (.iconst (-1), 1) := by decide +kernel
theorem dX10_valueOf_26 : decode cX10_valueOf 26 = .ok (.ireturn, 1) := by decide +kernel
theorem dX10_valueOf_27 : decode cX10_valueOf 27 = .ok (.iconst 0, 1) := by decide +kernel
theorem dX10_valueOf_28 : decode cX10_valueOf 28 = .ok (.istore_n 1, 1) := by decide +kernel
theorem dX10_valueOf_29 : decode cX10_valueOf 29 = .ok (.iconst 0, 1) := by decide +kernel
theorem dX10_valueOf_30 : decode cX10_valueOf 30 = .ok (.istore_n 2, 1) := by decide +kernel
theorem dX10_valueOf_31 : decode cX10_valueOf 31 = .ok (.iload_n 2, 1) := by decide +kernel
theorem dX10_valueOf_32 : decode cX10_valueOf 32 = .ok (.aload_n 0, 1) := by decide +kernel
theorem dX10_valueOf_33 : decode cX10_valueOf 33 = .ok (.arraylength, 1) := by decide +kernel
theorem dX10_valueOf_34 : decode cX10_valueOf 34 = .ok (.if_icmp .ge 39, 3) := by decide +kernel
theorem dX10_valueOf_37 : decode cX10_valueOf 37 = .ok (.aload_n 0, 1) := by decide +kernel
theorem dX10_valueOf_38 : decode cX10_valueOf 38 = .ok (.iload_n 2, 1) := by decide +kernel
theorem dX10_valueOf_39 : decode cX10_valueOf 39 = .ok (.iaload, 1) := by decide +kernel
theorem dX10_valueOf_40 : decode cX10_valueOf 40 = .ok (.bipush 48, 2) := by decide +kernel
theorem dX10_valueOf_42 : decode cX10_valueOf 42 = .ok (.if_icmp .lt 11, 3) := by decide +kernel
theorem dX10_valueOf_45 : decode cX10_valueOf 45 = .ok (.aload_n 0, 1) := by decide +kernel
theorem dX10_valueOf_46 : decode cX10_valueOf 46 = .ok (.iload_n 2, 1) := by decide +kernel
theorem dX10_valueOf_47 : decode cX10_valueOf 47 = .ok (.iaload, 1) := by decide +kernel
theorem dX10_valueOf_48 : decode cX10_valueOf 48 = .ok (.bipush 57, 2) := by decide +kernel
theorem dX10_valueOf_50 : decode cX10_valueOf 50 = .ok (.if_icmp .le 5, 3) := by decide +kernel
theorem dX10_valueOf_53 : decode cX10_valueOf 53 = .ok (.iconst (-1), 1) := by decide +kernel
theorem dX10_valueOf_54 : decode cX10_valueOf 54 = .ok (.ireturn, 1) := by decide +kernel
theorem dX10_valueOf_55 : decode cX10_valueOf 55 = .ok (.iload_n 1, 1) := by decide +kernel
theorem dX10_valueOf_56 : decode cX10_valueOf 56 = .ok (.bipush 10, 2) := by decide +kernel
theorem dX10_valueOf_58 : decode cX10_valueOf 58 = .ok (.imul, 1) := by decide +kernel
theorem dX10_valueOf_59 : decode cX10_valueOf 59 = .ok (.aload_n 0, 1) := by decide +kernel
theorem dX10_valueOf_60 : decode cX10_valueOf 60 = .ok (.iload_n 2, 1) := by decide +kernel
theorem dX10_valueOf_61 : decode cX10_valueOf 61 = .ok (.iaload, 1) := by decide +kernel
theorem dX10_valueOf_62 : decode cX10_valueOf 62 = .ok (.iadd, 1) := by decide +kernel
theorem dX10_valueOf_63 : decode cX10_valueOf 63 = .ok (.bipush 48, 2) := by decide +kernel
theorem dX10_valueOf_65 : decode cX10_valueOf 65 = .ok (.isub, 1) := by decide +kernel
theorem dX10_valueOf_66 : decode cX10_valueOf 66 = .ok (.istore_n 1, 1) := by decide +kernel
theorem dX10_valueOf_67 : decode cX10_valueOf 67 = .ok (.iinc 2 1, 3) := by decide +kernel
theorem dX10_valueOf_70 : decode cX10_valueOf 70 = .ok (.goto (-39), 3) := by decide +kernel
theorem dX10_valueOf_73 : decode cX10_valueOf 73 = .ok (.iload_n 1, 1) := by decide +kernel
theorem dX10_valueOf_74 : decode cX10_valueOf 74 = .ok (.ireturn, 1) := by decide +kernel
theorem dX11_init_0 : decode cX11_init 0 = .ok (.aload_n 0, 1) := by decide +kernel
theorem dX11_init_1 : decode cX11_init 1 = .ok (.invokespecial 1, 3) := by decide +kernel
theorem dX11_init_4 : decode cX11_init 4 = .ok (.aload_n 0, 1) := by decide +kernel
theorem dX11_init_5 : decode cX11_init 5 = .ok (.bipush 24, 2) := by decide +kernel
theorem dX11_init_7 : decode cX11_init 7 = .ok (.newarray .int, 2) := by decide +kernel
theorem dX11_init_9 : decode cX11_init 9 = .ok (.putfield 7, 3) := by decide +kernel
theorem dX11_init_12 : decode cX11_init 12 = .ok (.aload_n 0, 1) := by decide +kernel
theorem dX11_init_13 : decode cX11_init 13 = .ok (.bipush 24, 2) := by decide +kernel
theorem dX11_init_15 : decode cX11_init 15 = .ok (.newarray .int, 2) := by decide +kernel
theorem dX11_init_17 : decode cX11_init 17 = .ok (.putfield 13, 3) := by decide +kernel
theorem dX11_init_20 : decode cX11_init 20 = .ok (.aload_n 0, 1) := by decide +kernel
theorem dX11_init_21 : decode cX11_init 21 = .ok (.bipush 24, 2) := by decide +kernel
theorem dX11_init_23 : decode cX11_init 23 = .ok (.newarray .int, 2) := by decide +kernel
theorem dX11_init_25 : decode cX11_init 25 = .ok (.putfield 16, 3) := by decide +kernel
theorem dX11_init_28 : decode cX11_init 28 = .ok (.aload_n 0, 1) := by decide +kernel
theorem dX11_init_29 : decode cX11_init 29 = .ok (.bipush 24, 2) := by decide +kernel
theorem dX11_init_31 : decode cX11_init 31 = .ok (.newarray .int, 2) := by decide +kernel
theorem dX11_init_33 : decode cX11_init 33 = .ok (.putfield 19, 3) := by decide +kernel
theorem dX11_init_36 : decode cX11_init 36 = .ok (.aload_n 0, 1) := by decide +kernel
theorem dX11_init_37 : decode cX11_init 37 = .ok (.bipush 96, 2) := by decide +kernel
theorem dX11_init_39 : decode cX11_init 39 = .ok (.newarray .int, 2) := by decide +kernel
theorem dX11_init_41 : decode cX11_init 41 = .ok (.putfield 22, 3) := by decide +kernel
theorem dX11_init_44 : decode cX11_init 44 = .ok (.aload_n 0, 1) := by decide +kernel
theorem dX11_init_45 : decode cX11_init 45 = .ok (.sipush 144, 3) := by decide +kernel
theorem dX11_init_48 : decode cX11_init 48 = .ok (.newarray .int, 2) := by decide +kernel
theorem dX11_init_50 : decode cX11_init 50 = .ok (.putfield 25, 3) := by decide +kernel
theorem dX11_init_53 : decode cX11_init 53 = .ok (.aload_n 0, 1) := by decide +kernel
theorem dX11_init_54 : decode cX11_init 54 = .ok (.bipush 24, 2) := by decide +kernel
theorem dX11_init_56 : decode cX11_init 56 = .ok (.newarray .int, 2) := by decide +kernel
theorem dX11_init_58 : decode cX11_init 58 = .ok (.putfield 28, 3) := by decide +kernel
theorem dX11_init_61 : decode cX11_init 61 = .ok (.aload_n 0, 1) := by decide +kernel
theorem dX11_init_62 : decode cX11_init 62 = .ok (.bipush 9, 2) := by decide +kernel
theorem dX11_init_64 : decode cX11_init 64 = .ok (.newarray .int, 2) := by decide +kernel
theorem dX11_init_66 : decode cX11_init 66 = .ok (.putfield 31, 3) := by decide +kernel
theorem dX11_init_69 : decode cX11_init 69 = .ok (.aload_n 0, 1) := by decide +kernel
theorem dX11_init_70 : decode cX11_init 70 = .ok (.sipush 180, 3) := by decide +kernel
theorem dX11_init_73 : decode cX11_init 73 = .ok (.newarray .int, 2) := by decide +kernel
theorem dX11_init_75 : decode cX11_init 75 = .ok (.putfield 34, 3) := by decide +kernel
theorem dX11_init_78 : decode cX11_init 78 = .ok (.aload_n 0, 1) := by decide +kernel
theorem dX11_init_79 : decode cX11_init 79 = .ok (.sipush 180, 3) := by decide +kernel
theorem dX11_init_82 : decode cX11_init 82 = .ok (.newarray .int, 2) := by decide +kernel
theorem dX11_init_84 : decode cX11_init 84 = .ok (.putfield 37, 3) := by decide +kernel
theorem dX11_init_87 : decode cX11_init 87 = .ok (.aload_n 0, 1) := by decide +kernel
theorem dX11_init_88 : decode cX11_init 88 = .ok (.sipush 180, 3) := by decide +kernel
theorem dX11_init_91 : decode cX11_init 91 = .ok (.newarray .int, 2) := by decide +kernel
theorem dX11_init_93 : decode cX11_init 93 = .ok (.putfield 40, 3) := by decide +kernel
theorem dX11_init_96 : decode cX11_init 96 = .ok (.aload_n 0, 1) := by decide +kernel
theorem dX11_init_97 : decode cX11_init 97 = .ok (.sipush 1080, 3) := by decide +kernel
theorem dX11_init_100 : decode cX11_init 100 = .ok (.newarray .int, 2) := by decide +kernel
theorem dX11_init_102 : decode cX11_init 102 = .ok (.putfield 43, 3) := by decide +kernel
theorem dX11_init_105 : decode cX11_init 105 = .ok (.aload_n 0, 1) := by decide +kernel
theorem dX11_init_106 : decode cX11_init 106 = .ok (.iconst (-1), 1) := by decide +kernel
theorem dX11_init_107 : decode cX11_init 107 = .ok (.putfield 46, 3) := by decide +kernel
theorem dX11_init_110 : decode cX11_init 110 = .ok (.aload_n 0, 1) := by decide +kernel
theorem dX11_init_111 : decode cX11_init 111 = .ok (.iconst (-1), 1) := by decide +kernel
theorem dX11_init_112 : decode cX11_init 112 = .ok (.putfield 50, 3) := by decide +kernel
theorem dX11_init_115 : decode cX11_init 115 = .ok (.aload_n 0, 1) := by decide +kernel
theorem dX11_init_116 : decode cX11_init 116 = .ok (.bipush 120, 2) := by decide +kernel
theorem dX11_init_118 : decode cX11_init 118 = .ok (.newarray .int, 2) := by decide +kernel
theorem dX11_init_120 : decode cX11_init 120 = .ok (.putfield 53, 3) := by decide +kernel
theorem dX11_init_123 : decode cX11_init 123 = .ok (.aload_n 0, 1) := by decide +kernel
theorem dX11_init_124 : decode cX11_init 124 = .ok (.iconst 2, 1) := by decide +kernel
theorem dX11_init_125 : decode cX11_init 125 = .ok (.newarray .int, 2) := by decide +kernel
theorem dX11_init_127 : decode cX11_init 127 = .ok (.putfield 56, 3) := by decide +kernel
theorem dX11_init_130 : decode cX11_init 130 = .ok (.aload_n 0, 1) := by decide +kernel
theorem dX11_init_131 : decode cX11_init 131 = .ok (.sipush 500, 3) := by decide +kernel
theorem dX11_init_134 : decode cX11_init 134 = .ok (.newarray .int, 2) := by decide +kernel
theorem dX11_init_136 : decode cX11_init 136 = .ok (.putfield 59, 3) := by decide +kernel
theorem dX11_init_139 : decode cX11_init 139 = .ok (.aload_n 0, 1) := by decide +kernel
theorem dX11_init_140 : decode cX11_init 140 = .ok (.sipush 500, 3) := by decide +kernel
theorem dX11_init_143 : decode cX11_init 143 = .ok (.newarray .int, 2) := by decide +kernel
theorem dX11_init_145 : decode cX11_init 145 = .ok (.putfield 62, 3) := by decide +kernel
theorem dX11_init_148 : decode cX11_init 148 = .ok (.aload_n 0, 1) := by decide +kernel
theorem dX11_init_149 : decode cX11_init 149 = .ok (.sipush 500, 3) := by decide +kernel
theorem dX11_init_152 : decode cX11_init 152 = .ok (.newarray .int, 2) := by decide +kernel
theorem dX11_init_154 : decode cX11_init 154 = .ok (.putfield 65, 3) := by decide +kernel
theorem dX11_init_157 : decode cX11_init 157 = .ok (.aload_n 0, 1) := by decide +kernel
theorem dX11_init_158 : decode cX11_init 158 = .ok (.sipush 500, 3) := by decide +kernel
theorem dX11_init_161 : decode cX11_init 161 = .ok (.newarray .int, 2) := by decide +kernel
theorem dX11_init_163 : decode cX11_init 163 = .ok (.putfield 68, 3) := by decide +kernel
theorem dX11_init_166 : decode cX11_init 166 = .ok (.aload_n 0, 1) := by decide +kernel
theorem dX11_init_167 : decode cX11_init 167 = .ok (.sipush 500, 3) := by decide +kernel
theorem dX11_init_170 : decode cX11_init 170 = .ok (.newarray .int, 2) := by decide +kernel
theorem dX11_init_172 : decode cX11_init 172 = .ok (.putfield 71, 3) := by decide +kernel
theorem dX11_init_175 : decode cX11_init 175 = .ok (.aload_n 0, 1) := by decide +kernel
theorem dX11_init_176 : decode cX11_init 176 = .ok (.sipush 6000, 3) := by decide +kernel
theorem dX11_init_179 : decode cX11_init 179 = .ok (.newarray .int, 2) := by decide +kernel
theorem dX11_init_181 : decode cX11_init 181 = .ok (.putfield 74, 3) := by decide +kernel
theorem dX11_init_184 : decode cX11_init 184 = .ok (.aload_n 0, 1) := by decide +kernel
theorem dX11_init_185 : decode cX11_init 185 = .ok (.sipush 500, 3) := by decide +kernel
theorem dX11_init_188 : decode cX11_init 188 = .ok (.newarray .int, 2) := by decide +kernel
theorem dX11_init_190 : decode cX11_init 190 = .ok (.putfield 77, 3) := by decide +kernel
theorem dX11_init_193 : decode cX11_init 193 = .ok (.aload_n 0, 1) := by decide +kernel
theorem dX11_init_194 : decode cX11_init 194 = .ok (.sipush 500, 3) := by decide +kernel
theorem dX11_init_197 : decode cX11_init 197 = .ok (.newarray .int, 2) := by decide +kernel
theorem dX11_init_199 : decode cX11_init 199 = .ok (.putfield 80, 3) := by decide +kernel
theorem dX11_init_202 : decode cX11_init 202 = .ok (.aload_n 0, 1) := by decide +kernel
theorem dX11_init_203 : decode cX11_init 203 = .ok (.sipush 500, 3) := by decide +kernel
theorem dX11_init_206 : decode cX11_init 206 = .ok (.newarray .int, 2) := by decide +kernel
theorem dX11_init_208 : decode cX11_init 208 = .ok (.putfield 83, 3) := by decide +kernel
theorem dX11_init_211 : decode cX11_init 211 = .ok (.aload_n 0, 1) := by decide +kernel
theorem dX11_init_212 : decode cX11_init 212 = .ok (.sipush 6000, 3) := by decide +kernel
theorem dX11_init_215 : decode cX11_init 215 = .ok (.newarray .int, 2) := by decide +kernel
theorem dX11_init_217 : decode cX11_init 217 = .ok (.putfield 86, 3) := by decide +kernel
theorem dX11_init_220 : decode cX11_init 220 = .ok (.aload_n 0, 1) := by decide +kernel
theorem dX11_init_221 : decode cX11_init 221 = .ok (.sipush 500, 3) := by decide +kernel
theorem dX11_init_224 : decode cX11_init 224 = .ok (.newarray .int, 2) := by decide +kernel
theorem dX11_init_226 : decode cX11_init 226 = .ok (.putfield 89, 3) := by decide +kernel
theorem dX11_init_229 : decode cX11_init 229 = .ok (.aload_n 0, 1) := by decide +kernel
theorem dX11_init_230 : decode cX11_init 230 = .ok (.sipush 30000, 3) := by decide +kernel
theorem dX11_init_233 : decode cX11_init 233 = .ok (.newarray .int, 2) := by decide +kernel
theorem dX11_init_235 : decode cX11_init 235 = .ok (.putfield 92, 3) := by decide +kernel
theorem dX11_init_238 : decode cX11_init 238 = .ok (.aload_n 0, 1) := by decide +kernel
theorem dX11_init_239 : decode cX11_init 239 = .ok (.sipush 500, 3) := by decide +kernel
theorem dX11_init_242 : decode cX11_init 242 = .ok (.newarray .int, 2) := by decide +kernel
theorem dX11_init_244 : decode cX11_init 244 = .ok (.putfield 95, 3) := by decide +kernel
theorem dX11_init_247 : decode cX11_init 247 = .ok (.aload_n 0, 1) := by decide +kernel
theorem dX11_init_248 : decode cX11_init 248 = .ok (.ldc 98, 2) := by decide +kernel
theorem dX11_init_250 : decode cX11_init 250 = .ok (.newarray .int, 2) := by decide +kernel
theorem dX11_init_252 : decode cX11_init 252 = .ok (.putfield 99, 3) := by decide +kernel
theorem dX11_init_255 : decode cX11_init 255 = .ok (.aload_n 0, 1) := by decide +kernel
theorem dX11_init_256 : decode cX11_init 256 = .ok (.sipush 500, 3) := by decide +kernel
theorem dX11_init_259 : decode cX11_init 259 = .ok (.newarray .boolean, 2) := by decide +kernel
theorem dX11_init_261 : decode cX11_init 261 = .ok (.putfield 102, 3) := by decide +kernel
theorem dX11_init_264 : decode cX11_init 264 = .ok (.aload_n 0, 1) := by decide +kernel
theorem dX11_init_265 : decode cX11_init 265 = .ok (.bipush 6, 2) := by decide +kernel
theorem dX11_init_267 : decode cX11_init 267 = .ok (.newarray .int, 2) := by decide +kernel
theorem dX11_init_269 : decode cX11_init 269 = .ok (.putfield 106, 3) := by decide +kernel
theorem dX11_init_272 : decode cX11_init 272 = .ok (.aload_n 0, 1) := by decide +kernel
theorem dX11_init_273 : decode cX11_init 273 = .ok (.bipush 6, 2) := by decide +kernel
theorem dX11_init_275 : decode cX11_init 275 = .ok (.newarray .int, 2) := by decide +kernel
theorem dX11_init_277 : decode cX11_init 277 = .ok (.putfield 109, 3) := by decide +kernel
theorem dX11_init_280 : decode cX11_init 280 = .ok (.aload_n 0, 1) := by decide +kernel
theorem dX11_init_281 : decode cX11_init 281 = .ok (.bipush 6, 2) := by decide +kernel
theorem dX11_init_283 : decode cX11_init 283 = .ok (.newarray .int, 2) := by decide +kernel
theorem dX11_init_285 : decode cX11_init 285 = .ok (.putfield 112, 3) := by decide +kernel
theorem dX11_init_288 : decode cX11_init 288 = .ok (.aload_n 0, 1) := by decide +kernel
theorem dX11_init_289 : decode cX11_init 289 = .ok (.bipush 6, 2) := by decide +kernel
theorem dX11_init_291 : decode cX11_init 291 = .ok (.newarray .boolean, 2) := by decide +kernel
theorem dX11_init_293 : decode cX11_init 293 = .ok (.putfield 115, 3) := by decide +kernel
theorem dX11_init_296 : decode cX11_init 296 = .ok (.aload_n 0, 1) := by decide +kernel
theorem dX11_init_297 : decode cX11_init 297 = .ok (.bipush 30, 2) := by decide +kernel
theorem dX11_init_299 : decode cX11_init 299 = .ok (.newarray .int, 2) := by decide +kernel
theorem dX11_init_301 : decode cX11_init 301 = .ok (.putfield 118, 3) := by decide +kernel
theorem dX11_init_304 : decode cX11_init 304 = .ok (.aload_n 0, 1) := by decide +kernel
theorem dX11_init_305 : decode cX11_init 305 = .ok (.bipush 30, 2) := by decide +kernel
theorem dX11_init_307 : decode cX11_init 307 = .ok (.newarray .int, 2) := by decide +kernel
theorem dX11_init_309 : decode cX11_init 309 = .ok (.putfield 121, 3) := by decide +kernel
theorem dX11_init_312 : decode cX11_init 312 = .ok (.aload_n 0, 1) := by decide +kernel
theorem dX11_init_313 : decode cX11_init 313 = .ok (.bipush 30, 2) := by decide +kernel
theorem dX11_init_315 : decode cX11_init 315 = .ok (.newarray .int, 2) := by decide +kernel
theorem dX11_init_317 : decode cX11_init 317 = .ok (.putfield 124, 3) := by decide +kernel
theorem dX11_init_320 : decode cX11_init 320 = .ok (.aload_n 0, 1) := by decide +kernel
theorem dX11_init_321 : decode cX11_init 321 = .ok (.sipush 1800, 3) := by decide +kernel
theorem dX11_init_324 : decode cX11_init 324 = .ok (.newarray .int, 2) := by decide +kernel
theorem dX11_init_326 : decode cX11_init 326 = .ok (.putfield 127, 3) := by decide +kernel
theorem dX11_init_329 : decode cX11_init 329 = .ok (.iconst 0, 1) := by decide +kernel
theorem dX11_init_330 : decode cX11_init 330 = .ok (.istore_n 1, 1) := by decide +kernel
theorem dX11_init_331 : decode cX11_init 331 = .ok (.iload_n 1, 1) := by decide +kernel
theorem dX11_init_332 : decode cX11_init 332 = .ok (.bipush 24, 2) := by decide +kernel
theorem dX11_init_334 : decode cX11_init 334 = .ok (.if_icmp .ge 16, 3) := by decide +kernel
theorem dX11_init_337 : decode cX11_init 337 = .ok (.aload_n 0, 1) := by decide +kernel
theorem dX11_init_338 : decode cX11_init 338 = .ok (.getfield 7, 3) := by decide +kernel
theorem dX11_init_341 : decode cX11_init 341 = .ok (.iload_n 1, 1) := by decide +kernel
theorem dX11_init_342 : decode cX11_init 342 = .ok (.iconst (-1), 1) := by decide +kernel
theorem dX11_init_343 : decode cX11_init 343 = .ok (.iastore, 1) := by decide +kernel
theorem dX11_init_344 : decode cX11_init 344 = .ok (.iinc 1 1, 3) := by decide +kernel
theorem dX11_init_347 : decode cX11_init 347 = .ok (.goto (-16), 3) := by decide +kernel
theorem dX11_init_350 : decode cX11_init 350 = .ok (.return_, 1) := by decide +kernel
theorem dX11_isIn_0 : decode cX11_isIn 0 = .ok (.iload_n 0, 1) := by decide +kernel
theorem dX11_isIn_1 : decode cX11_isIn 1 = .ok (.iload_n 1, 1) := by decide +kernel
theorem dX11_isIn_2 : decode cX11_isIn 2 = .ok (.if_icmp .lt 12, 3) := by decide +kernel
theorem dX11_isIn_5 : decode cX11_isIn 5 = .ok (.iload_n 0, 1) := by decide +kernel
theorem dX11_isIn_6 : decode cX11_isIn 6 = .ok (.iload_n 2, 1) := by decide +kernel
theorem dX11_isIn_7 : decode cX11_isIn 7 = .ok (.if_icmp .gt 7, 3) := by decide +kernel
theorem dX11_isIn_10 : decode cX11_isIn 10 = .ok (.iconst 1, 1) := by decide +kernel
theorem dX11_isIn_11 : decode cX11_isIn 11 = .ok (.goto 4, 3) := by decide +kernel
theorem dX11_isIn_14 : decode cX11_isIn 14 = .ok (.iconst 0, 1) := by decide +kernel
theorem dX11_isIn_15 : decode cX11_isIn 15 = .ok (.ireturn, 1) := by decide +kernel
theorem dX11_isThing_0 : decode cX11_isThing 0 = .ok (.iload_n 1, 1) := by decide +kernel
theorem dX11_isThing_1 : decode cX11_isThing 1 = .ok (.iconst 0, 1) := by decide +kernel
theorem dX11_isThing_2 : decode cX11_isThing 2 = .ok (.bipush 23, 2) := by decide +kernel
theorem dX11_isThing_4 : decode cX11_isThing 4 = .ok (.invokestatic 130, 3) := by decide +kernel
theorem dX11_isThing_7 : decode cX11_isThing 7 = .ok (.ifCond .eq 16, 3) := by decide +kernel
theorem dX11_isThing_10 : decode cX11_isThing 10 = .ok (.aload_n 0, 1) := by decide +kernel
theorem dX11_isThing_11 : decode cX11_isThing 11 = .ok (.getfield 7, 3) := by decide +kernel
theorem dX11_isThing_14 : decode cX11_isThing 14 = .ok (.iload_n 1, 1) := by decide +kernel
theorem dX11_isThing_15 : decode cX11_isThing 15 = .ok (.iaload, 1) := by decide +kernel
theorem dX11_isThing_16 : decode cX11_isThing 16 = .ok (.ifCond .lt 7, 3) := by decide +kernel
theorem dX11_isThing_19 : decode cX11_isThing 19 = .ok (.iconst 1, 1) := by decide +kernel
theorem dX11_isThing_20 : decode cX11_isThing 20 = .ok (.goto 4, 3) := by decide +kernel
theorem dX11_isThing_23 : decode cX11_isThing 23 = .ok (.iconst 0, 1) := by decide +kernel
theorem dX11_isThing_24 : decode cX11_isThing 24 = .ok (.ireturn, 1) := by decide +kernel
theorem dX11_four_0 : decode cX11_four 0 = .ok (.bipush 24, 2) := by decide +kernel
theorem dX11_four_2 : decode cX11_four 2 = .ok (.istore_n 2, 1) := by decide +kernel
theorem dX11_four_3 : decode cX11_four 3 = .ok (.iload_n 2, 1) := by decide +kernel
theorem dX11_four_4 : decode cX11_four 4 = .ok (.ifCond .lt 35, 3) := by decide +kernel
theorem dX11_four_7 : decode cX11_four 7 = .ok (.aload_n 0, 1) := by decide +kernel
theorem dX11_four_8 : decode cX11_four 8 = .ok (.getfield 53, 3) := by decide +kernel
theorem dX11_four_11 : decode cX11_four 11 = .ok (.aload_n 0, 1) := by decide +kernel
theorem dX11_four_12 : decode cX11_four 12 = .ok (.getfield 134, 3) := by decide +kernel
theorem dX11_four_15 : decode cX11_four 15 = .ok (.iload_n 1, 1) := by decide +kernel
theorem dX11_four_16 : decode cX11_four 16 = .ok (.iload_n 2, 1) := by decide +kernel
theorem dX11_four_17 : decode cX11_four 17 = .ok (.ishr, 1) := by decide +kernel
theorem dX11_four_18 : decode cX11_four 18 = .ok (.sipush 255, 3) := by decide +kernel
theorem dX11_four_21 : decode cX11_four 21 = .ok (.iand, 1) := by decide +kernel
theorem dX11_four_22 : decode cX11_four 22 = .ok (.iastore, 1) := by decide +kernel
theorem dX11_four_23 : decode cX11_four 23 = .ok (.aload_n 0, 1) := by decide +kernel
theorem dX11_four_24 : decode cX11_four 24 = .ok (.dup, 1) := by decide +kernel
theorem dX11_four_25 : decode cX11_four 25 = .ok (.getfield 134, 3) := by decide +kernel
theorem dX11_four_28 : decode cX11_four 28 = .ok (.iconst 1, 1) := by decide +kernel
theorem dX11_four_29 : decode cX11_four 29 = .ok (.iadd, 1) := by decide +kernel
theorem dX11_four_30 : decode cX11_four 30 = .ok (.putfield 134, 3) := by decide +kernel
theorem dX11_four_33 : decode cX11_four 33 = .ok (.iinc 2 (-8), 3) := by decide +kernel
theorem dX11_four_36 : decode cX11_four 36 = .ok (.goto (-33), 3) := by decide +kernel
theorem dX11_four_39 : decode cX11_four 39 = .ok (.return_, 1) := by decide +kernel
theorem dX11_feed_0 : decode cX11_feed 0 = .ok (.aload_n 0, 1) := by decide +kernel
theorem dX11_feed_1 : decode cX11_feed 1 = .ok (.getfield 134, 3) := by decide +kernel
theorem dX11_feed_4 : decode cX11_feed 4 = .ok (.bipush 20, 2) := by decide +kernel
theorem dX11_feed_6 : decode cX11_feed 6 = .ok (.iadd, 1) := by decide +kernel
theorem dX11_feed_7 : decode cX11_feed 7 = .ok (.bipush 120, 2) := by decide +kernel
theorem dX11_feed_9 : decode cX11_feed 9 = .ok (.if_icmp .le 5, 3) := by decide +kernel
theorem dX11_feed_12 : decode cX11_feed 12 = .ok (.iconst (-1), 1) := by decide +kernel
theorem dX11_feed_13 : decode cX11_feed 13 = .ok (.ireturn, 1) := by decide +kernel
theorem dX11_feed_14 : decode cX11_feed 14 = .ok (.aload_n 0, 1) := by decide +kernel
theorem dX11_feed_15 : decode cX11_feed 15 = .ok (.iload_n 1, 1) := by decide +kernel
theorem dX11_feed_16 : decode cX11_feed 16 = .ok (.invokevirtual 137, 3) := by decide +kernel
theorem dX11_feed_19 : decode cX11_feed 19 = .ok (.aload_n 0, 1) := by decide +kernel
theorem dX11_feed_20 : decode cX11_feed 20 = .ok (.iload_n 2, 1) := by decide +kernel
theorem dX11_feed_21 : decode cX11_feed 21 = .ok (.invokevirtual 137, 3) := by decide +kernel
theorem dX11_feed_24 : decode cX11_feed 24 = .ok (.aload_n 0, 1) := by decide +kernel
theorem dX11_feed_25 : decode cX11_feed 25 = .ok (.iload_n 3, 1) := by decide +kernel
theorem dX11_feed_26 : decode cX11_feed 26 = .ok (.invokevirtual 137, 3) := by decide +kernel
theorem dX11_feed_29 : decode cX11_feed 29 = .ok (.aload_n 0, 1) := by decide +kernel
theorem dX11_feed_30 : decode cX11_feed 30 = .ok (.iload 4, 2) := by decide +kernel
theorem dX11_feed_32 : decode cX11_feed 32 = .ok (.invokevirtual 137, 3) := by decide +kernel
theorem dX11_feed_35 : decode cX11_feed 35 = .ok (.aload_n 0, 1) := by decide +kernel
theorem dX11_feed_36 : decode cX11_feed 36 = .ok (.iload 5, 2) := by decide +kernel
theorem dX11_feed_38 : decode cX11_feed 38 = .ok (.invokevirtual 137, 3) := by decide +kernel
theorem dX11_feed_41 : decode cX11_feed 41 = .ok (.aload_n 0, 1) := by decide +kernel
theorem dX11_feed_42 : decode cX11_feed 42 = .ok (.getfield 134, 3) := by decide +kernel
theorem dX11_feed_45 : decode cX11_feed 45 = .ok (.ireturn, 1) := by decide +kernel
theorem dX11_end_0 : decode cX11_end 0 = .ok (.iload_n 1, 1) := by decide +kernel
theorem dX11_end_1 : decode cX11_end 1 = .ok (.iconst 0, 1) := by decide +kernel
theorem dX11_end_2 : decode cX11_end 2 = .ok (.aload_n 0, 1) := by decide +kernel
theorem dX11_end_3 : decode cX11_end 3 = .ok (.getfield 134, 3) := by decide +kernel
theorem dX11_end_6 : decode cX11_end 6 = .ok (.invokestatic 130, 3) := by decide +kernel
theorem dX11_end_9 : decode cX11_end 9 = .ok (.ifCond .ne 5, 3) := by decide +kernel
theorem dX11_end_12 : decode cX11_end 12 = .ok (.iconst (-1), 1) := by decide +kernel
theorem dX11_end_13 : decode cX11_end 13 = .ok (.ireturn, 1) := by decide +kernel
theorem dX11_end_14 : decode cX11_end 14 = .ok (.aload_n 0, 1) := by decide +kernel
theorem dX11_end_15 : decode cX11_end 15 = .ok (.iload_n 1, 1) := by decide +kernel
theorem dX11_end_16 : decode cX11_end 16 = .ok (.putfield 134, 3) := by decide +kernel
theorem dX11_end_19 : decode cX11_end 19 = .ok (.iload_n 1, 1) := by decide +kernel
theorem dX11_end_20 : decode cX11_end 20 = .ok (.ireturn, 1) := by decide +kernel
theorem dX11_isName_0 : decode cX11_isName 0 = .ok (.aload_n 0, 1) := by decide +kernel
theorem dX11_isName_1 : decode cX11_isName 1 = .ok (.getfield 134, 3) := by decide +kernel
theorem dX11_isName_4 : decode cX11_isName 4 = .ok (.iconst 1, 1) := by decide +kernel
theorem dX11_isName_5 : decode cX11_isName 5 = .ok (.bipush 6, 2) := by decide +kernel
theorem dX11_isName_7 : decode cX11_isName 7 = .ok (.invokestatic 130, 3) := by decide +kernel
theorem dX11_isName_10 : decode cX11_isName 10 = .ok (.ifCond .ne 5, 3) := by decide +kernel
theorem dX11_isName_13 : decode cX11_isName 13 = .ok (.iconst 0, 1) := by decide +kernel
theorem dX11_isName_14 : decode cX11_isName 14 = .ok (.ireturn, 1) := by decide +kernel
theorem dX11_isName_15 : decode cX11_isName 15 = .ok (.iconst 0, 1) := by decide +kernel
theorem dX11_isName_16 : decode cX11_isName 16 = .ok (.istore_n 1, 1) := by decide +kernel
theorem dX11_isName_17 : decode cX11_isName 17 = .ok (.iload_n 1, 1) := by decide +kernel
theorem dX11_isName_18 : decode cX11_isName 18 = .ok (.aload_n 0, 1) := by decide +kernel
theorem dX11_isName_19 : decode cX11_isName 19 = .ok (.getfield 134, 3) := by decide +kernel
theorem dX11_isName_22 : decode cX11_isName 22 = .ok (.if_icmp .ge 43, 3) := by decide +kernel
theorem dX11_isName_25 : decode cX11_isName 25 = .ok (.aload_n 0, 1) := by decide +kernel
theorem dX11_isName_26 : decode cX11_isName 26 = .ok (.getfield 53, 3) := by decide +kernel
theorem dX11_isName_29 : decode cX11_isName 29 = .ok (.iload_n 1, 1) := by decide +kernel
theorem dX11_isName_30 : decode cX11_isName 30 = .ok (.iaload, 1) := by decide +kernel
theorem dX11_isName_31 : decode cX11_isName 31 = .ok (.bipush 97, 2) := by decide +kernel
theorem dX11_isName_33 : decode cX11_isName 33 = .ok (.bipush 122, 2) := by decide +kernel
theorem dX11_isName_35 : decode cX11_isName 35 = .ok (.invokestatic 130, 3) := by decide +kernel
theorem dX11_isName_38 : decode cX11_isName 38 = .ok (.ifCond .ne 21, 3) := by decide +kernel
theorem dX11_isName_41 : decode cX11_isName 41 = .ok (.aload_n 0, 1) := by decide +kernel
theorem dX11_isName_42 : decode cX11_isName 42 = .ok (.getfield 53, 3) := by decide +kernel
theorem dX11_isName_45 : decode cX11_isName 45 = .ok (.iload_n 1, 1) := by decide +kernel
theorem dX11_isName_46 : decode cX11_isName 46 = .ok (.iaload, 1) := by decide +kernel
theorem dX11_isName_47 : decode cX11_isName 47 = .ok (.bipush 65, 2) := by decide +kernel
theorem dX11_isName_49 : decode cX11_isName 49 = .ok (.bipush 90, 2) := by decide +kernel
theorem dX11_isName_51 : decode cX11_isName 51 = .ok (.invokestatic 130, 3) := by decide +kernel
theorem dX11_isName_54 : decode cX11_isName 54 = .ok (.ifCond .ne 5, 3) := by decide +kernel
theorem dX11_isName_57 : decode cX11_isName 57 = .ok (.iconst 0, 1) := by decide +kernel
theorem dX11_isName_58 : decode cX11_isName 58 = .ok (.ireturn, 1) := by decide +kernel
theorem dX11_isName_59 : decode cX11_isName 59 = .ok (.iinc 1 1, 3) := by decide +kernel
theorem dX11_isName_62 : decode cX11_isName 62 = .ok (.goto (-45), 3) := by decide +kernel
theorem dX11_isName_65 : decode cX11_isName 65 = .ok (.iconst 1, 1) := by decide +kernel
theorem dX11_isName_66 : decode cX11_isName 66 = .ok (.ireturn, 1) := by decide +kernel
theorem dX11_depthOf_0 : decode cX11_depthOf 0 = .ok (.iconst 1, 1) := by decide +kernel
theorem dX11_depthOf_1 : decode cX11_depthOf 1 = .ok (.istore_n 2, 1) := by decide +kernel
theorem dX11_depthOf_2 : decode cX11_depthOf 2 = .ok (.aload_n 0, 1) := by decide +kernel
theorem dX11_depthOf_3 : decode cX11_depthOf 3 = .ok (.getfield 16, 3) := by decide +kernel
theorem dX11_depthOf_6 : decode cX11_depthOf 6 = .ok (.iload_n 1, 1) := by decide +kernel
theorem dX11_depthOf_7 : decode cX11_depthOf 7 = .ok (.iaload, 1) := by decide +kernel
theorem dX11_depthOf_8 : decode cX11_depthOf 8 = .ok (.istore_n 3, 1) := by decide +kernel
theorem dX11_depthOf_9 : decode cX11_depthOf 9 = .ok (.iload_n 3, 1) := by decide +kernel
theorem dX11_depthOf_10 : decode cX11_depthOf 10 = .ok (.ifCond .lt 16, 3) := by decide +kernel
theorem dX11_depthOf_13 : decode cX11_depthOf 13 = .ok (.iinc 2 1, 3) := by decide +kernel
theorem dX11_depthOf_16 : decode cX11_depthOf 16 = .ok (.aload_n 0, 1) := by decide +kernel
theorem dX11_depthOf_17 : decode cX11_depthOf 17 = .ok (.getfield 16, 3) := by decide +kernel
theorem dX11_depthOf_20 : decode cX11_depthOf 20 = .ok (.iload_n 3, 1) := by decide +kernel
theorem dX11_depthOf_21 : decode cX11_depthOf 21 = .ok (.iaload, 1) := by decide +kernel
theorem dX11_depthOf_22 : decode cX11_depthOf 22 = .ok (.istore_n 3, 1) := by decide +kernel
theorem dX11_depthOf_23 : decode cX11_depthOf 23 = .ok (.goto (-14), 3) := by decide +kernel
theorem dX11_depthOf_26 : decode cX11_depthOf 26 = .ok (.iload_n 2, 1) := by decide +kernel
theorem dX11_depthOf_27 : decode cX11_depthOf 27 = .ok (.ireturn, 1) := by decide +kernel
theorem dX11_many_0 : decode cX11_many 0 = .ok (.iconst 0, 1) := by decide +kernel
theorem dX11_many_1 : decode cX11_many 1 = .ok (.istore_n 2, 1) := by decide +kernel
theorem dX11_many_2 : decode cX11_many 2 = .ok (.iconst 0, 1) := by decide +kernel
theorem dX11_many_3 : decode cX11_many 3 = .ok (.istore_n 3, 1) := by decide +kernel
theorem dX11_many_4 : decode cX11_many 4 = .ok (.iload_n 3, 1) := by decide +kernel
theorem dX11_many_5 : decode cX11_many 5 = .ok (.bipush 24, 2) := by decide +kernel
theorem dX11_many_7 : decode cX11_many 7 = .ok (.if_icmp .ge 36, 3) := by decide +kernel
theorem dX11_many_10 : decode cX11_many 10 = .ok (.iload_n 2, 1) := by decide +kernel
theorem dX11_many_11 : decode cX11_many 11 = .ok (.aload_n 0, 1) := by decide +kernel
theorem dX11_many_12 : decode cX11_many 12 = .ok (.getfield 7, 3) := by decide +kernel
theorem dX11_many_15 : decode cX11_many 15 = .ok (.iload_n 3, 1) := by decide +kernel
theorem dX11_many_16 : decode cX11_many 16 = .ok (.iaload, 1) := by decide +kernel
theorem dX11_many_17 : decode cX11_many 17 = .ok (.ifCond .lt 17, 3) := by decide +kernel
theorem dX11_many_20 : decode cX11_many 20 = .ok (.aload_n 0, 1) := by decide +kernel
theorem dX11_many_21 : decode cX11_many 21 = .ok (.getfield 16, 3) := by decide +kernel
theorem dX11_many_24 : decode cX11_many 24 = .ok (.iload_n 3, 1) := by decide +kernel
theorem dX11_many_25 : decode cX11_many 25 = .ok (.iaload, 1) := by decide +kernel
theorem dX11_many_26 : decode cX11_many 26 = .ok (.iload_n 1, 1) := by decide +kernel
theorem dX11_many_27 : decode cX11_many 27 = .ok (.if_icmp .ne 7, 3) := by decide +kernel
theorem dX11_many_30 : decode cX11_many 30 = .ok (.iconst 1, 1) := by decide +kernel
theorem dX11_many_31 : decode cX11_many 31 = .ok (.goto 4, 3) := by decide +kernel
theorem dX11_many_34 : decode cX11_many 34 = .ok (.iconst 0, 1) := by decide +kernel
theorem dX11_many_35 : decode cX11_many 35 = .ok (.iadd, 1) := by decide +kernel
theorem dX11_many_36 : decode cX11_many 36 = .ok (.istore_n 2, 1) := by decide +kernel
theorem dX11_many_37 : decode cX11_many 37 = .ok (.iinc 3 1, 3) := by decide +kernel
theorem dX11_many_40 : decode cX11_many 40 = .ok (.goto (-36), 3) := by decide +kernel
theorem dX11_many_43 : decode cX11_many 43 = .ok (.iload_n 2, 1) := by decide +kernel
theorem dX11_many_44 : decode cX11_many 44 = .ok (.ireturn, 1) := by decide +kernel
theorem dX11_takeName_0 : decode cX11_takeName 0 = .ok (.aload_n 0, 1) := by decide +kernel
theorem dX11_takeName_1 : decode cX11_takeName 1 = .ok (.getfield 28, 3) := by decide +kernel
theorem dX11_takeName_4 : decode cX11_takeName 4 = .ok (.iload_n 1, 1) := by decide +kernel
theorem dX11_takeName_5 : decode cX11_takeName 5 = .ok (.aload_n 0, 1) := by decide +kernel
theorem dX11_takeName_6 : decode cX11_takeName 6 = .ok (.getfield 134, 3) := by decide +kernel
theorem dX11_takeName_9 : decode cX11_takeName 9 = .ok (.iastore, 1) := by decide +kernel
theorem dX11_takeName_10 : decode cX11_takeName 10 = .ok (.iconst 0, 1) := by decide +kernel
theorem dX11_takeName_11 : decode cX11_takeName 11 = .ok (.istore_n 2, 1) := by decide +kernel
theorem dX11_takeName_12 : decode cX11_takeName 12 = .ok (.iload_n 2, 1) := by decide +kernel
theorem dX11_takeName_13 : decode cX11_takeName 13 = .ok (.aload_n 0, 1) := by decide +kernel
theorem dX11_takeName_14 : decode cX11_takeName 14 = .ok (.getfield 134, 3) := by decide +kernel
theorem dX11_takeName_17 : decode cX11_takeName 17 = .ok (.if_icmp .ge 26, 3) := by decide +kernel
theorem dX11_takeName_20 : decode cX11_takeName 20 = .ok (.aload_n 0, 1) := by decide +kernel
theorem dX11_takeName_21 : decode cX11_takeName 21 = .ok (.getfield 25, 3) := by decide +kernel
theorem dX11_takeName_24 : decode cX11_takeName 24 = .ok (.bipush 6, 2) := by decide +kernel
theorem dX11_takeName_26 : decode cX11_takeName 26 = .ok (.iload_n 1, 1) := by decide +kernel
theorem dX11_takeName_27 : decode cX11_takeName 27 = .ok (.imul, 1) := by decide +kernel
theorem dX11_takeName_28 : decode cX11_takeName 28 = .ok (.iload_n 2, 1) := by decide +kernel
theorem dX11_takeName_29 : decode cX11_takeName 29 = .ok (.iadd, 1) := by decide +kernel
theorem dX11_takeName_30 : decode cX11_takeName 30 = .ok (.aload_n 0, 1) := by decide +kernel
theorem dX11_takeName_31 : decode cX11_takeName 31 = .ok (.getfield 53, 3) := by decide +kernel
theorem dX11_takeName_34 : decode cX11_takeName 34 = .ok (.iload_n 2, 1) := by decide +kernel
theorem dX11_takeName_35 : decode cX11_takeName 35 = .ok (.iaload, 1) := by decide +kernel
theorem dX11_takeName_36 : decode cX11_takeName 36 = .ok (.iastore, 1) := by decide +kernel
theorem dX11_takeName_37 : decode cX11_takeName 37 = .ok (.iinc 2 1, 3) := by decide +kernel
theorem dX11_takeName_40 : decode cX11_takeName 40 = .ok (.goto (-28), 3) := by decide +kernel
theorem dX11_takeName_43 : decode cX11_takeName 43 = .ok (.aload_n 0, 1) := by decide +kernel
theorem dX11_takeName_44 : decode cX11_takeName 44 = .ok (.iconst 0, 1) := by decide +kernel
theorem dX11_takeName_45 : decode cX11_takeName 45 = .ok (.putfield 134, 3) := by decide +kernel
theorem dX11_takeName_48 : decode cX11_takeName 48 = .ok (.return_, 1) := by decide +kernel
theorem dX11_thing_0 : decode cX11_thing 0 = .ok (.aload_n 0, 1) := by decide +kernel
theorem dX11_thing_1 : decode cX11_thing 1 = .ok (.invokevirtual 141, 3) := by decide +kernel
theorem dX11_thing_4 : decode cX11_thing 4 = .ok (.ifCond .eq 45, 3) := by decide +kernel
theorem dX11_thing_7 : decode cX11_thing 7 = .ok (.iload_n 1, 1) := by decide +kernel
theorem dX11_thing_8 : decode cX11_thing 8 = .ok (.iconst 0, 1) := by decide +kernel
theorem dX11_thing_9 : decode cX11_thing 9 = .ok (.bipush 7, 2) := by decide +kernel
theorem dX11_thing_11 : decode cX11_thing 11 = .ok (.invokestatic 130, 3) := by decide +kernel
theorem dX11_thing_14 : decode cX11_thing 14 = .ok (.ifCond .eq 35, 3) := by decide +kernel
theorem dX11_thing_17 : decode cX11_thing 17 = .ok (.iload_n 2, 1) := by decide +kernel
theorem dX11_thing_18 : decode cX11_thing 18 = .ok (.iconst (-1), 1) := by decide +kernel
theorem dX11_thing_19 : decode cX11_thing 19 = .ok (.if_icmp .eq 21, 3) := by decide +kernel
theorem dX11_thing_22 : decode cX11_thing 22 = .ok (.aload_n 0, 1) := by decide +kernel
theorem dX11_thing_23 : decode cX11_thing 23 = .ok (.iload_n 2, 1) := by decide +kernel
theorem dX11_thing_24 : decode cX11_thing 24 = .ok (.invokevirtual 145, 3) := by decide +kernel
theorem dX11_thing_27 : decode cX11_thing 27 = .ok (.ifCond .eq 22, 3) := by decide +kernel
theorem dX11_thing_30 : decode cX11_thing 30 = .ok (.aload_n 0, 1) := by decide +kernel
theorem dX11_thing_31 : decode cX11_thing 31 = .ok (.iload_n 2, 1) := by decide +kernel
theorem dX11_thing_32 : decode cX11_thing 32 = .ok (.invokevirtual 149, 3) := by decide +kernel
theorem dX11_thing_35 : decode cX11_thing 35 = .ok (.bipush 6, 2) := by decide +kernel
theorem dX11_thing_37 : decode cX11_thing 37 = .ok (.if_icmp .eq 12, 3) := by decide +kernel
theorem dX11_thing_40 : decode cX11_thing 40 = .ok (.aload_n 0, 1) := by decide +kernel
theorem dX11_thing_41 : decode cX11_thing 41 = .ok (.getfield 153, 3) := by decide +kernel
theorem dX11_thing_44 : decode cX11_thing 44 = .ok (.bipush 24, 2) := by decide +kernel
theorem dX11_thing_46 : decode cX11_thing 46 = .ok (.if_icmp .ne 5, 3) := by decide +kernel
theorem dX11_thing_49 : decode cX11_thing 49 = .ok (.iconst (-1), 1) := by decide +kernel
theorem dX11_thing_50 : decode cX11_thing 50 = .ok (.ireturn, 1) := by decide +kernel
theorem dX11_thing_51 : decode cX11_thing 51 = .ok (.iconst 0, 1) := by decide +kernel
theorem dX11_thing_52 : decode cX11_thing 52 = .ok (.istore_n 3, 1) := by decide +kernel
theorem dX11_thing_53 : decode cX11_thing 53 = .ok (.aload_n 0, 1) := by decide +kernel
theorem dX11_thing_54 : decode cX11_thing 54 = .ok (.getfield 7, 3) := by decide +kernel
theorem dX11_thing_57 : decode cX11_thing 57 = .ok (.iload_n 3, 1) := by decide +kernel
theorem dX11_thing_58 : decode cX11_thing 58 = .ok (.iaload, 1) := by decide +kernel
theorem dX11_thing_59 : decode cX11_thing 59 = .ok (.ifCond .lt 9, 3) := by decide +kernel
theorem dX11_thing_62 : decode cX11_thing 62 = .ok (.iinc 3 1, 3) := by decide +kernel
theorem dX11_thing_65 : decode cX11_thing 65 = .ok (.goto (-12), 3) := by decide +kernel
theorem dX11_thing_68 : decode cX11_thing 68 = .ok (.aload_n 0, 1) := by decide +kernel
theorem dX11_thing_69 : decode cX11_thing 69 = .ok (.getfield 19, 3) := by decide +kernel
theorem dX11_thing_72 : decode cX11_thing 72 = .ok (.iload_n 3, 1) := by decide +kernel
theorem dX11_thing_73 : decode cX11_thing 73 = .ok (.aload_n 0, 1) := by decide +kernel
theorem dX11_thing_74 : decode cX11_thing 74 = .ok (.iload_n 2, 1) := by decide +kernel
theorem dX11_thing_75 : decode cX11_thing 75 = .ok (.invokevirtual 156, 3) := by decide +kernel
theorem dX11_thing_78 : decode cX11_thing 78 = .ok (.iastore, 1) := by decide +kernel
theorem dX11_thing_79 : decode cX11_thing 79 = .ok (.aload_n 0, 1) := by decide +kernel
theorem dX11_thing_80 : decode cX11_thing 80 = .ok (.getfield 16, 3) := by decide +kernel
theorem dX11_thing_83 : decode cX11_thing 83 = .ok (.iload_n 3, 1) := by decide +kernel
theorem dX11_thing_84 : decode cX11_thing 84 = .ok (.iload_n 2, 1) := by decide +kernel
theorem dX11_thing_85 : decode cX11_thing 85 = .ok (.iastore, 1) := by decide +kernel
theorem dX11_thing_86 : decode cX11_thing 86 = .ok (.aload_n 0, 1) := by decide +kernel
theorem dX11_thing_87 : decode cX11_thing 87 = .ok (.getfield 13, 3) := by decide +kernel
theorem dX11_thing_90 : decode cX11_thing 90 = .ok (.iload_n 3, 1) := by decide +kernel
theorem dX11_thing_91 : decode cX11_thing 91 = .ok (.iload_n 1, 1) := by decide +kernel
theorem dX11_thing_92 : decode cX11_thing 92 = .ok (.iastore, 1) := by decide +kernel
theorem dX11_thing_93 : decode cX11_thing 93 = .ok (.iconst 0, 1) := by decide +kernel
theorem dX11_thing_94 : decode cX11_thing 94 = .ok (.istore 4, 2) := by decide +kernel
theorem dX11_thing_96 : decode cX11_thing 96 = .ok (.iload 4, 2) := by decide +kernel
theorem dX11_thing_98 : decode cX11_thing 98 = .ok (.iconst 4, 1) := by decide +kernel
theorem dX11_thing_99 : decode cX11_thing 99 = .ok (.if_icmp .ge 21, 3) := by decide +kernel
theorem dX11_thing_102 : decode cX11_thing 102 = .ok (.aload_n 0, 1) := by decide +kernel
theorem dX11_thing_103 : decode cX11_thing 103 = .ok (.getfield 22, 3) := by decide +kernel
theorem dX11_thing_106 : decode cX11_thing 106 = .ok (.iconst 4, 1) := by decide +kernel
theorem dX11_thing_107 : decode cX11_thing 107 = .ok (.iload_n 3, 1) := by decide +kernel
theorem dX11_thing_108 : decode cX11_thing 108 = .ok (.imul, 1) := by decide +kernel
theorem dX11_thing_109 : decode cX11_thing 109 = .ok (.iload 4, 2) := by decide +kernel
theorem dX11_thing_111 : decode cX11_thing 111 = .ok (.iadd, 1) := by decide +kernel
theorem dX11_thing_112 : decode cX11_thing 112 = .ok (.iconst 0, 1) := by decide +kernel
theorem dX11_thing_113 : decode cX11_thing 113 = .ok (.iastore, 1) := by decide +kernel
theorem dX11_thing_114 : decode cX11_thing 114 = .ok (.iinc 4 1, 3) := by decide +kernel
theorem dX11_thing_117 : decode cX11_thing 117 = .ok (.goto (-21), 3) := by decide +kernel
theorem dX11_thing_120 : decode cX11_thing 120 = .ok (.aload_n 0, 1) := by decide +kernel
theorem dX11_thing_121 : decode cX11_thing 121 = .ok (.getfield 7, 3) := by decide +kernel
theorem dX11_thing_124 : decode cX11_thing 124 = .ok (.iload_n 3, 1) := by decide +kernel
theorem dX11_thing_125 : decode cX11_thing 125 = .ok (.aload_n 0, 1) := by decide +kernel
theorem dX11_thing_126 : decode cX11_thing 126 = .ok (.getfield 159, 3) := by decide +kernel
theorem dX11_thing_129 : decode cX11_thing 129 = .ok (.iastore, 1) := by decide +kernel
theorem dX11_thing_130 : decode cX11_thing 130 = .ok (.aload_n 0, 1) := by decide +kernel
theorem dX11_thing_131 : decode cX11_thing 131 = .ok (.dup, 1) := by decide +kernel
theorem dX11_thing_132 : decode cX11_thing 132 = .ok (.getfield 159, 3) := by decide +kernel
theorem dX11_thing_135 : decode cX11_thing 135 = .ok (.iconst 1, 1) := by decide +kernel
theorem dX11_thing_136 : decode cX11_thing 136 = .ok (.iadd, 1) := by decide +kernel
theorem dX11_thing_137 : decode cX11_thing 137 = .ok (.putfield 159, 3) := by decide +kernel
theorem dX11_thing_140 : decode cX11_thing 140 = .ok (.aload_n 0, 1) := by decide +kernel
theorem dX11_thing_141 : decode cX11_thing 141 = .ok (.dup, 1) := by decide +kernel
theorem dX11_thing_142 : decode cX11_thing 142 = .ok (.getfield 153, 3) := by decide +kernel
theorem dX11_thing_145 : decode cX11_thing 145 = .ok (.iconst 1, 1) := by decide +kernel
theorem dX11_thing_146 : decode cX11_thing 146 = .ok (.iadd, 1) := by decide +kernel
theorem dX11_thing_147 : decode cX11_thing 147 = .ok (.putfield 153, 3) := by decide +kernel
theorem dX11_thing_150 : decode cX11_thing 150 = .ok (.aload_n 0, 1) := by decide +kernel
theorem dX11_thing_151 : decode cX11_thing 151 = .ok (.iload_n 3, 1) := by decide +kernel
theorem dX11_thing_152 : decode cX11_thing 152 = .ok (.invokevirtual 162, 3) := by decide +kernel
theorem dX11_thing_155 : decode cX11_thing 155 = .ok (.iload_n 3, 1) := by decide +kernel
theorem dX11_thing_156 : decode cX11_thing 156 = .ok (.ireturn, 1) := by decide +kernel
theorem dX11_number_0 : decode cX11_number 0 = .ok (.aload_n 0, 1) := by decide +kernel
theorem dX11_number_1 : decode cX11_number 1 = .ok (.iload_n 1, 1) := by decide +kernel
theorem dX11_number_2 : decode cX11_number 2 = .ok (.invokevirtual 145, 3) := by decide +kernel
theorem dX11_number_5 : decode cX11_number 5 = .ok (.ifCond .eq 22, 3) := by decide +kernel
theorem dX11_number_8 : decode cX11_number 8 = .ok (.iload_n 2, 1) := by decide +kernel
theorem dX11_number_9 : decode cX11_number 9 = .ok (.iconst 0, 1) := by decide +kernel
theorem dX11_number_10 : decode cX11_number 10 = .ok (.iconst 3, 1) := by decide +kernel
theorem dX11_number_11 : decode cX11_number 11 = .ok (.invokestatic 130, 3) := by decide +kernel
theorem dX11_number_14 : decode cX11_number 14 = .ok (.ifCond .eq 13, 3) := by decide +kernel
theorem dX11_number_17 : decode cX11_number 17 = .ok (.iload_n 3, 1) := by decide +kernel
theorem dX11_number_18 : decode cX11_number 18 = .ok (.iconst 0, 1) := by decide +kernel
theorem dX11_number_19 : decode cX11_number 19 = .ok (.ldc 165, 2) := by decide +kernel
theorem dX11_number_21 : decode cX11_number 21 = .ok (.invokestatic 130, 3) := by decide +kernel
theorem dX11_number_24 : decode cX11_number 24 = .ok (.ifCond .ne 5, 3) := by decide +kernel
theorem dX11_number_27 : decode cX11_number 27 = .ok (.iconst 0, 1) := by decide +kernel
theorem dX11_number_28 : decode cX11_number 28 = .ok (.ireturn, 1) := by decide +kernel
theorem dX11_number_29 : decode cX11_number 29 = .ok (.aload_n 0, 1) := by decide +kernel
theorem dX11_number_30 : decode cX11_number 30 = .ok (.getfield 22, 3) := by decide +kernel
theorem dX11_number_33 : decode cX11_number 33 = .ok (.iconst 4, 1) := by decide +kernel
theorem dX11_number_34 : decode cX11_number 34 = .ok (.iload_n 1, 1) := by decide +kernel
theorem dX11_number_35 : decode cX11_number 35 = .ok (.imul, 1) := by decide +kernel
theorem dX11_number_36 : decode cX11_number 36 = .ok (.iload_n 2, 1) := by decide +kernel
theorem dX11_number_37 : decode cX11_number 37 = .ok (.iadd, 1) := by decide +kernel
theorem dX11_number_38 : decode cX11_number 38 = .ok (.iload_n 3, 1) := by decide +kernel
theorem dX11_number_39 : decode cX11_number 39 = .ok (.iastore, 1) := by decide +kernel
theorem dX11_number_40 : decode cX11_number 40 = .ok (.iconst 1, 1) := by decide +kernel
theorem dX11_number_41 : decode cX11_number 41 = .ok (.ireturn, 1) := by decide +kernel
theorem dX11_name_0 : decode cX11_name 0 = .ok (.aload_n 0, 1) := by decide +kernel
theorem dX11_name_1 : decode cX11_name 1 = .ok (.iload_n 1, 1) := by decide +kernel
theorem dX11_name_2 : decode cX11_name 2 = .ok (.invokevirtual 145, 3) := by decide +kernel
theorem dX11_name_5 : decode cX11_name 5 = .ok (.ifCond .eq 10, 3) := by decide +kernel
theorem dX11_name_8 : decode cX11_name 8 = .ok (.aload_n 0, 1) := by decide +kernel
theorem dX11_name_9 : decode cX11_name 9 = .ok (.invokevirtual 141, 3) := by decide +kernel
theorem dX11_name_12 : decode cX11_name 12 = .ok (.ifCond .ne 5, 3) := by decide +kernel
theorem dX11_name_15 : decode cX11_name 15 = .ok (.iconst 0, 1) := by decide +kernel
theorem dX11_name_16 : decode cX11_name 16 = .ok (.ireturn, 1) := by decide +kernel
theorem dX11_name_17 : decode cX11_name 17 = .ok (.aload_n 0, 1) := by decide +kernel
theorem dX11_name_18 : decode cX11_name 18 = .ok (.iload_n 1, 1) := by decide +kernel
theorem dX11_name_19 : decode cX11_name 19 = .ok (.invokevirtual 162, 3) := by decide +kernel
theorem dX11_name_22 : decode cX11_name 22 = .ok (.iconst 1, 1) := by decide +kernel
theorem dX11_name_23 : decode cX11_name 23 = .ok (.ireturn, 1) := by decide +kernel
theorem dX11_move_0 : decode cX11_move 0 = .ok (.aload_n 0, 1) := by decide +kernel
theorem dX11_move_1 : decode cX11_move 1 = .ok (.iload_n 1, 1) := by decide +kernel
theorem dX11_move_2 : decode cX11_move 2 = .ok (.invokevirtual 145, 3) := by decide +kernel
theorem dX11_move_5 : decode cX11_move 5 = .ok (.ifCond .eq 23, 3) := by decide +kernel
theorem dX11_move_8 : decode cX11_move 8 = .ok (.iload_n 2, 1) := by decide +kernel
theorem dX11_move_9 : decode cX11_move 9 = .ok (.iconst 0, 1) := by decide +kernel
theorem dX11_move_10 : decode cX11_move 10 = .ok (.aload_n 0, 1) := by decide +kernel
theorem dX11_move_11 : decode cX11_move 11 = .ok (.aload_n 0, 1) := by decide +kernel
theorem dX11_move_12 : decode cX11_move 12 = .ok (.getfield 16, 3) := by decide +kernel
theorem dX11_move_15 : decode cX11_move 15 = .ok (.iload_n 1, 1) := by decide +kernel
theorem dX11_move_16 : decode cX11_move 16 = .ok (.iaload, 1) := by decide +kernel
theorem dX11_move_17 : decode cX11_move 17 = .ok (.invokevirtual 156, 3) := by decide +kernel
theorem dX11_move_20 : decode cX11_move 20 = .ok (.iconst 1, 1) := by decide +kernel
theorem dX11_move_21 : decode cX11_move 21 = .ok (.isub, 1) := by decide +kernel
theorem dX11_move_22 : decode cX11_move 22 = .ok (.invokestatic 130, 3) := by decide +kernel
theorem dX11_move_25 : decode cX11_move 25 = .ok (.ifCond .ne 5, 3) := by decide +kernel
theorem dX11_move_28 : decode cX11_move 28 = .ok (.iconst 0, 1) := by decide +kernel
theorem dX11_move_29 : decode cX11_move 29 = .ok (.ireturn, 1) := by decide +kernel
theorem dX11_move_30 : decode cX11_move 30 = .ok (.iconst 0, 1) := by decide +kernel
theorem dX11_move_31 : decode cX11_move 31 = .ok (.istore_n 3, 1) := by decide +kernel
theorem dX11_move_32 : decode cX11_move 32 = .ok (.iload_n 3, 1) := by decide +kernel
theorem dX11_move_33 : decode cX11_move 33 = .ok (.bipush 24, 2) := by decide +kernel
theorem dX11_move_35 : decode cX11_move 35 = .ok (.if_icmp .ge 86, 3) := by decide +kernel
theorem dX11_move_38 : decode cX11_move 38 = .ok (.aload_n 0, 1) := by decide +kernel
theorem dX11_move_39 : decode cX11_move 39 = .ok (.getfield 7, 3) := by decide +kernel
theorem dX11_move_42 : decode cX11_move 42 = .ok (.iload_n 3, 1) := by decide +kernel
theorem dX11_move_43 : decode cX11_move 43 = .ok (.iaload, 1) := by decide +kernel
theorem dX11_move_44 : decode cX11_move 44 = .ok (.ifCond .lt 71, 3) := by decide +kernel
theorem dX11_move_47 : decode cX11_move 47 = .ok (.iload_n 3, 1) := by decide +kernel
theorem dX11_move_48 : decode cX11_move 48 = .ok (.iload_n 1, 1) := by decide +kernel
theorem dX11_move_49 : decode cX11_move 49 = .ok (.if_icmp .eq 66, 3) := by decide +kernel
theorem dX11_move_52 : decode cX11_move 52 = .ok (.aload_n 0, 1) := by decide +kernel
theorem dX11_move_53 : decode cX11_move 53 = .ok (.getfield 16, 3) := by decide +kernel
theorem dX11_move_56 : decode cX11_move 56 = .ok (.iload_n 3, 1) := by decide +kernel
theorem dX11_move_57 : decode cX11_move 57 = .ok (.iaload, 1) := by decide +kernel
theorem dX11_move_58 : decode cX11_move 58 = .ok (.aload_n 0, 1) := by decide +kernel
theorem dX11_move_59 : decode cX11_move 59 = .ok (.getfield 16, 3) := by decide +kernel
theorem dX11_move_62 : decode cX11_move 62 = .ok (.iload_n 1, 1) := by decide +kernel
theorem dX11_move_63 : decode cX11_move 63 = .ok (.iaload, 1) := by decide +kernel
theorem dX11_move_64 : decode cX11_move 64 = .ok (.if_icmp .eq 6, 3) := by decide +kernel
theorem dX11_move_67 : decode cX11_move 67 = .ok (.goto 48, 3) := by decide +kernel
theorem dX11_move_70 : decode cX11_move 70 = .ok (.aload_n 0, 1) := by decide +kernel
theorem dX11_move_71 : decode cX11_move 71 = .ok (.getfield 19, 3) := by decide +kernel
theorem dX11_move_74 : decode cX11_move 74 = .ok (.iload_n 3, 1) := by decide +kernel
theorem dX11_move_75 : decode cX11_move 75 = .ok (.iaload, 1) := by decide +kernel
theorem dX11_move_76 : decode cX11_move 76 = .ok (.aload_n 0, 1) := by decide +kernel
theorem dX11_move_77 : decode cX11_move 77 = .ok (.getfield 19, 3) := by decide +kernel
theorem dX11_move_80 : decode cX11_move 80 = .ok (.iload_n 1, 1) := by decide +kernel
theorem dX11_move_81 : decode cX11_move 81 = .ok (.iaload, 1) := by decide +kernel
theorem dX11_move_82 : decode cX11_move 82 = .ok (.if_icmp .le 13, 3) := by decide +kernel
theorem dX11_move_85 : decode cX11_move 85 = .ok (.aload_n 0, 1) := by decide +kernel
theorem dX11_move_86 : decode cX11_move 86 = .ok (.getfield 19, 3) := by decide +kernel
theorem dX11_move_89 : decode cX11_move 89 = .ok (.iload_n 3, 1) := by decide +kernel
theorem dX11_move_90 : decode cX11_move 90 = .ok (.dup2, 1) := by decide +kernel
theorem dX11_move_91 : decode cX11_move 91 = .ok (.iaload, 1) := by decide +kernel
theorem dX11_move_92 : decode cX11_move 92 = .ok (.iconst 1, 1) := by decide +kernel
theorem dX11_move_93 : decode cX11_move 93 = .ok (.isub, 1) := by decide +kernel
theorem dX11_move_94 : decode cX11_move 94 = .ok (.iastore, 1) := by decide +kernel
theorem dX11_move_95 : decode cX11_move 95 = .ok (.aload_n 0, 1) := by decide +kernel
theorem dX11_move_96 : decode cX11_move 96 = .ok (.getfield 19, 3) := by decide +kernel
theorem dX11_move_99 : decode cX11_move 99 = .ok (.iload_n 3, 1) := by decide +kernel
theorem dX11_move_100 : decode cX11_move 100 = .ok (.iaload, 1) := by decide +kernel
theorem dX11_move_101 : decode cX11_move 101 = .ok (.iload_n 2, 1) := by decide +kernel
theorem dX11_move_102 : decode cX11_move 102 = .ok (.if_icmp .lt 13, 3) := by decide +kernel
theorem dX11_move_105 : decode cX11_move 105 = .ok (.aload_n 0, 1) := by decide +kernel
theorem dX11_move_106 : decode cX11_move 106 = .ok (.getfield 19, 3) := by decide +kernel
theorem dX11_move_109 : decode cX11_move 109 = .ok (.iload_n 3, 1) := by decide +kernel
theorem dX11_move_110 : decode cX11_move 110 = .ok (.dup2, 1) := by decide +kernel
theorem dX11_move_111 : decode cX11_move 111 = .ok (.iaload, 1) := by decide +kernel
theorem dX11_move_112 : decode cX11_move 112 = .ok (.iconst 1, 1) := by decide +kernel
theorem dX11_move_113 : decode cX11_move 113 = .ok (.iadd, 1) := by decide +kernel
theorem dX11_move_114 : decode cX11_move 114 = .ok (.iastore, 1) := by decide +kernel
theorem dX11_move_115 : decode cX11_move 115 = .ok (.iinc 3 1, 3) := by decide +kernel
theorem dX11_move_118 : decode cX11_move 118 = .ok (.goto (-86), 3) := by decide +kernel
theorem dX11_move_121 : decode cX11_move 121 = .ok (.aload_n 0, 1) := by decide +kernel
theorem dX11_move_122 : decode cX11_move 122 = .ok (.getfield 19, 3) := by decide +kernel
theorem dX11_move_125 : decode cX11_move 125 = .ok (.iload_n 1, 1) := by decide +kernel
theorem dX11_move_126 : decode cX11_move 126 = .ok (.iload_n 2, 1) := by decide +kernel
theorem dX11_move_127 : decode cX11_move 127 = .ok (.iastore, 1) := by decide +kernel
theorem dX11_move_128 : decode cX11_move 128 = .ok (.iconst 1, 1) := by decide +kernel
theorem dX11_move_129 : decode cX11_move 129 = .ok (.ireturn, 1) := by decide +kernel
theorem dX11_isWithin_0 : decode cX11_isWithin 0 = .ok (.iload_n 1, 1) := by decide +kernel
theorem dX11_isWithin_1 : decode cX11_isWithin 1 = .ok (.istore_n 3, 1) := by decide +kernel
theorem dX11_isWithin_2 : decode cX11_isWithin 2 = .ok (.iload_n 3, 1) := by decide +kernel
theorem dX11_isWithin_3 : decode cX11_isWithin 3 = .ok (.ifCond .lt 18, 3) := by decide +kernel
theorem dX11_isWithin_6 : decode cX11_isWithin 6 = .ok (.iload_n 3, 1) := by decide +kernel
theorem dX11_isWithin_7 : decode cX11_isWithin 7 = .ok (.iload_n 2, 1) := by decide +kernel
theorem dX11_isWithin_8 : decode cX11_isWithin 8 = .ok (.if_icmp .eq 13, 3) := by decide +kernel
theorem dX11_isWithin_11 : decode cX11_isWithin 11 = .ok (.aload_n 0, 1) := by decide +kernel
theorem dX11_isWithin_12 : decode cX11_isWithin 12 = .ok (.getfield 16, 3) := by decide +kernel
theorem dX11_isWithin_15 : decode cX11_isWithin 15 = .ok (.iload_n 3, 1) := by decide +kernel
theorem dX11_isWithin_16 : decode cX11_isWithin 16 = .ok (.iaload, 1) := by decide +kernel
theorem dX11_isWithin_17 : decode cX11_isWithin 17 = .ok (.istore_n 3, 1) := by decide +kernel
theorem dX11_isWithin_18 : decode cX11_isWithin 18 = .ok (.goto (-16), 3) := by decide +kernel
theorem dX11_isWithin_21 : decode cX11_isWithin 21 = .ok (.iload_n 3, 1) := by decide +kernel
theorem dX11_isWithin_22 : decode cX11_isWithin 22 = .ok (.iload_n 2, 1) := by decide +kernel
theorem dX11_isWithin_23 : decode cX11_isWithin 23 = .ok (.if_icmp .ne 7, 3) := by decide +kernel
theorem dX11_isWithin_26 : decode cX11_isWithin 26 = .ok (.iconst 1, 1) := by decide +kernel
theorem dX11_isWithin_27 : decode cX11_isWithin 27 = .ok (.goto 4, 3) := by decide +kernel
theorem dX11_isWithin_30 : decode cX11_isWithin 30 = .ok (.iconst 0, 1) := by decide +kernel
theorem dX11_isWithin_31 : decode cX11_isWithin 31 = .ok (.ireturn, 1) := by decide +kernel
theorem dX11_drop_0 : decode cX11_drop 0 = .ok (.aload_n 0, 1) := by decide +kernel
theorem dX11_drop_1 : decode cX11_drop 1 = .ok (.iload_n 1, 1) := by decide +kernel
theorem dX11_drop_2 : decode cX11_drop 2 = .ok (.invokevirtual 145, 3) := by decide +kernel
theorem dX11_drop_5 : decode cX11_drop 5 = .ok (.ifCond .ne 5, 3) := by decide +kernel
theorem dX11_drop_8 : decode cX11_drop 8 = .ok (.iconst (-1), 1) := by decide +kernel
theorem dX11_drop_9 : decode cX11_drop 9 = .ok (.ireturn, 1) := by decide +kernel
theorem dX11_drop_10 : decode cX11_drop 10 = .ok (.iconst 0, 1) := by decide +kernel
theorem dX11_drop_11 : decode cX11_drop 11 = .ok (.istore_n 2, 1) := by decide +kernel
theorem dX11_drop_12 : decode cX11_drop 12 = .ok (.iload_n 2, 1) := by decide +kernel
theorem dX11_drop_13 : decode cX11_drop 13 = .ok (.bipush 24, 2) := by decide +kernel
theorem dX11_drop_15 : decode cX11_drop 15 = .ok (.if_icmp .ge 58, 3) := by decide +kernel
theorem dX11_drop_18 : decode cX11_drop 18 = .ok (.aload_n 0, 1) := by decide +kernel
theorem dX11_drop_19 : decode cX11_drop 19 = .ok (.getfield 7, 3) := by decide +kernel
theorem dX11_drop_22 : decode cX11_drop 22 = .ok (.iload_n 2, 1) := by decide +kernel
theorem dX11_drop_23 : decode cX11_drop 23 = .ok (.iaload, 1) := by decide +kernel
theorem dX11_drop_24 : decode cX11_drop 24 = .ok (.ifCond .lt 43, 3) := by decide +kernel
theorem dX11_drop_27 : decode cX11_drop 27 = .ok (.aload_n 0, 1) := by decide +kernel
theorem dX11_drop_28 : decode cX11_drop 28 = .ok (.getfield 16, 3) := by decide +kernel
theorem dX11_drop_31 : decode cX11_drop 31 = .ok (.iload_n 2, 1) := by decide +kernel
theorem dX11_drop_32 : decode cX11_drop 32 = .ok (.iaload, 1) := by decide +kernel
theorem dX11_drop_33 : decode cX11_drop 33 = .ok (.aload_n 0, 1) := by decide +kernel
theorem dX11_drop_34 : decode cX11_drop 34 = .ok (.getfield 16, 3) := by decide +kernel
theorem dX11_drop_37 : decode cX11_drop 37 = .ok (.iload_n 1, 1) := by decide +kernel
theorem dX11_drop_38 : decode cX11_drop 38 = .ok (.iaload, 1) := by decide +kernel
theorem dX11_drop_39 : decode cX11_drop 39 = .ok (.if_icmp .ne 28, 3) := by decide +kernel
theorem dX11_drop_42 : decode cX11_drop 42 = .ok (.aload_n 0, 1) := by decide +kernel
theorem dX11_drop_43 : decode cX11_drop 43 = .ok (.getfield 19, 3) := by decide +kernel
theorem dX11_drop_46 : decode cX11_drop 46 = .ok (.iload_n 2, 1) := by decide +kernel
theorem dX11_drop_47 : decode cX11_drop 47 = .ok (.iaload, 1) := by decide +kernel
theorem dX11_drop_48 : decode cX11_drop 48 = .ok (.aload_n 0, 1) := by decide +kernel
theorem dX11_drop_49 : decode cX11_drop 49 = .ok (.getfield 19, 3) := by decide +kernel
theorem dX11_drop_52 : decode cX11_drop 52 = .ok (.iload_n 1, 1) := by decide +kernel
theorem dX11_drop_53 : decode cX11_drop 53 = .ok (.iaload, 1) := by decide +kernel
theorem dX11_drop_54 : decode cX11_drop 54 = .ok (.if_icmp .le 13, 3) := by decide +kernel
theorem dX11_drop_57 : decode cX11_drop 57 = .ok (.aload_n 0, 1) := by decide +kernel
end
section
theorem dX11_drop_58 : decode cX11_drop 58 = .ok (.getfield 19, 3) := by decide +kernel
theorem dX11_drop_61 : decode cX11_drop 61 = .ok (.iload_n 2, 1) := by decide +kernel
theorem dX11_drop_62 : decode cX11_drop 62 = .ok (.dup2, 1) := by decide +kernel
theorem dX11_drop_63 : decode cX11_drop 63 = .ok (.iaload, 1) := by decide +kernel
theorem dX11_drop_64 : decode cX11_drop 64 = .ok (.iconst 1, 1) := by decide +kernel
theorem dX11_drop_65 : decode cX11_drop 65 = .ok (.isub, 1) := by decide +kernel
theorem dX11_drop_66 : decode cX11_drop 66 = .ok (.iastore, 1) := by decide +kernel
theorem dX11_drop_67 : decode cX11_drop 67 = .ok (.iinc 2 1, 3) := by decide +kernel
theorem dX11_drop_70 : decode cX11_drop 70 = .ok (.goto (-58), 3) := by decide +kernel
theorem dX11_drop_73 : decode cX11_drop 73 = .ok (.iconst 0, 1) := by decide +kernel
theorem dX11_drop_74 : decode cX11_drop 74 = .ok (.istore_n 2, 1) := by decide +kernel
theorem dX11_drop_75 : decode cX11_drop 75 = .ok (.iconst 1, 1) := by decide +kernel
theorem dX11_drop_76 : decode cX11_drop 76 = .ok (.istore_n 3, 1) := by decide +kernel
theorem dX11_drop_77 : decode cX11_drop 77 = .ok (.iload_n 3, 1) := by decide +kernel
theorem dX11_drop_78 : decode cX11_drop 78 = .ok (.ifCond .eq 75, 3) := by decide +kernel
theorem dX11_drop_81 : decode cX11_drop 81 = .ok (.iconst 0, 1) := by decide +kernel
theorem dX11_drop_82 : decode cX11_drop 82 = .ok (.istore_n 3, 1) := by decide +kernel
theorem dX11_drop_83 : decode cX11_drop 83 = .ok (.iconst 0, 1) := by decide +kernel
theorem dX11_drop_84 : decode cX11_drop 84 = .ok (.istore 4, 2) := by decide +kernel
theorem dX11_drop_86 : decode cX11_drop 86 = .ok (.iload 4, 2) := by decide +kernel
theorem dX11_drop_88 : decode cX11_drop 88 = .ok (.bipush 24, 2) := by decide +kernel
theorem dX11_drop_90 : decode cX11_drop 90 = .ok (.if_icmp .ge 60, 3) := by decide +kernel
theorem dX11_drop_93 : decode cX11_drop 93 = .ok (.aload_n 0, 1) := by decide +kernel
theorem dX11_drop_94 : decode cX11_drop 94 = .ok (.getfield 7, 3) := by decide +kernel
theorem dX11_drop_97 : decode cX11_drop 97 = .ok (.iload 4, 2) := by decide +kernel
theorem dX11_drop_99 : decode cX11_drop 99 = .ok (.iaload, 1) := by decide +kernel
theorem dX11_drop_100 : decode cX11_drop 100 = .ok (.ifCond .lt 44, 3) := by decide +kernel
theorem dX11_drop_103 : decode cX11_drop 103 = .ok (.iload 4, 2) := by decide +kernel
theorem dX11_drop_105 : decode cX11_drop 105 = .ok (.iload_n 1, 1) := by decide +kernel
theorem dX11_drop_106 : decode cX11_drop 106 = .ok (.if_icmp .eq 38, 3) := by decide +kernel
theorem dX11_drop_109 : decode cX11_drop 109 = .ok (.aload_n 0, 1) := by decide +kernel
theorem dX11_drop_110 : decode cX11_drop 110 = .ok (.iload 4, 2) := by decide +kernel
theorem dX11_drop_112 : decode cX11_drop 112 = .ok (.iload_n 1, 1) := by decide +kernel
theorem dX11_drop_113 : decode cX11_drop 113 = .ok (.invokevirtual 166, 3) := by decide +kernel
theorem dX11_drop_116 : decode cX11_drop 116 = .ok (.ifCond .eq 28, 3) := by decide +kernel
theorem dX11_drop_119 : decode cX11_drop 119 = .ok (.aload_n 0, 1) := by decide +kernel
theorem dX11_drop_120 : decode cX11_drop 120 = .ok (.iload 4, 2) := by decide +kernel
theorem dX11_drop_122 : decode cX11_drop 122 = .ok (.invokevirtual 156, 3) := by decide +kernel
theorem dX11_drop_125 : decode cX11_drop 125 = .ok (.ifCond .le 6, 3) := by decide +kernel
theorem dX11_drop_128 : decode cX11_drop 128 = .ok (.goto 16, 3) := by decide +kernel
theorem dX11_drop_131 : decode cX11_drop 131 = .ok (.aload_n 0, 1) := by decide +kernel
theorem dX11_drop_132 : decode cX11_drop 132 = .ok (.getfield 7, 3) := by decide +kernel
theorem dX11_drop_135 : decode cX11_drop 135 = .ok (.iload 4, 2) := by decide +kernel
theorem dX11_drop_137 : decode cX11_drop 137 = .ok (.iconst (-1), 1) := by decide +kernel
theorem dX11_drop_138 : decode cX11_drop 138 = .ok (.iastore, 1) := by decide +kernel
theorem dX11_drop_139 : decode cX11_drop 139 = .ok (.iinc 2 1, 3) := by decide +kernel
theorem dX11_drop_142 : decode cX11_drop 142 = .ok (.iconst 1, 1) := by decide +kernel
theorem dX11_drop_143 : decode cX11_drop 143 = .ok (.istore_n 3, 1) := by decide +kernel
theorem dX11_drop_144 : decode cX11_drop 144 = .ok (.iinc 4 1, 3) := by decide +kernel
theorem dX11_drop_147 : decode cX11_drop 147 = .ok (.goto (-61), 3) := by decide +kernel
theorem dX11_drop_150 : decode cX11_drop 150 = .ok (.goto (-73), 3) := by decide +kernel
theorem dX11_drop_153 : decode cX11_drop 153 = .ok (.aload_n 0, 1) := by decide +kernel
theorem dX11_drop_154 : decode cX11_drop 154 = .ok (.getfield 7, 3) := by decide +kernel
theorem dX11_drop_157 : decode cX11_drop 157 = .ok (.iload_n 1, 1) := by decide +kernel
theorem dX11_drop_158 : decode cX11_drop 158 = .ok (.iconst (-1), 1) := by decide +kernel
theorem dX11_drop_159 : decode cX11_drop 159 = .ok (.iastore, 1) := by decide +kernel
theorem dX11_drop_160 : decode cX11_drop 160 = .ok (.aload_n 0, 1) := by decide +kernel
theorem dX11_drop_161 : decode cX11_drop 161 = .ok (.dup, 1) := by decide +kernel
theorem dX11_drop_162 : decode cX11_drop 162 = .ok (.getfield 153, 3) := by decide +kernel
theorem dX11_drop_165 : decode cX11_drop 165 = .ok (.iload_n 2, 1) := by decide +kernel
theorem dX11_drop_166 : decode cX11_drop 166 = .ok (.iconst 1, 1) := by decide +kernel
theorem dX11_drop_167 : decode cX11_drop 167 = .ok (.iadd, 1) := by decide +kernel
theorem dX11_drop_168 : decode cX11_drop 168 = .ok (.isub, 1) := by decide +kernel
theorem dX11_drop_169 : decode cX11_drop 169 = .ok (.putfield 153, 3) := by decide +kernel
theorem dX11_drop_172 : decode cX11_drop 172 = .ok (.iload_n 2, 1) := by decide +kernel
theorem dX11_drop_173 : decode cX11_drop 173 = .ok (.iconst 1, 1) := by decide +kernel
theorem dX11_drop_174 : decode cX11_drop 174 = .ok (.iadd, 1) := by decide +kernel
theorem dX11_drop_175 : decode cX11_drop 175 = .ok (.ireturn, 1) := by decide +kernel
theorem dX11_see_0 : decode cX11_see 0 = .ok (.iload_n 1, 1) := by decide +kernel
theorem dX11_see_1 : decode cX11_see 1 = .ok (.aload_n 0, 1) := by decide +kernel
theorem dX11_see_2 : decode cX11_see 2 = .ok (.getfield 134, 3) := by decide +kernel
theorem dX11_see_5 : decode cX11_see 5 = .ok (.if_icmp .ge 12, 3) := by decide +kernel
theorem dX11_see_8 : decode cX11_see 8 = .ok (.aload_n 0, 1) := by decide +kernel
theorem dX11_see_9 : decode cX11_see 9 = .ok (.getfield 53, 3) := by decide +kernel
theorem dX11_see_12 : decode cX11_see 12 = .ok (.iload_n 1, 1) := by decide +kernel
theorem dX11_see_13 : decode cX11_see 13 = .ok (.iaload, 1) := by decide +kernel
theorem dX11_see_14 : decode cX11_see 14 = .ok (.goto 4, 3) := by decide +kernel
theorem dX11_see_17 : decode cX11_see 17 = .ok (.iconst (-1), 1) := by decide +kernel
theorem dX11_see_18 : decode cX11_see 18 = .ok (.ireturn, 1) := by decide +kernel
theorem dX11_put_0 : decode cX11_put 0 = .ok (.aload_n 0, 1) := by decide +kernel
theorem dX11_put_1 : decode cX11_put 1 = .ok (.getfield 170, 3) := by decide +kernel
theorem dX11_put_4 : decode cX11_put 4 = .ok (.bipush 20, 2) := by decide +kernel
theorem dX11_put_6 : decode cX11_put 6 = .ok (.if_icmp .ne 5, 3) := by decide +kernel
theorem dX11_put_9 : decode cX11_put 9 = .ok (.iconst 5, 1) := by decide +kernel
theorem dX11_put_10 : decode cX11_put 10 = .ok (.ireturn, 1) := by decide +kernel
theorem dX11_put_11 : decode cX11_put 11 = .ok (.aload_n 0, 1) := by decide +kernel
theorem dX11_put_12 : decode cX11_put 12 = .ok (.getfield 34, 3) := by decide +kernel
theorem dX11_put_15 : decode cX11_put 15 = .ok (.sipush 160, 3) := by decide +kernel
theorem dX11_put_18 : decode cX11_put 18 = .ok (.aload_n 0, 1) := by decide +kernel
theorem dX11_put_19 : decode cX11_put 19 = .ok (.getfield 170, 3) := by decide +kernel
theorem dX11_put_22 : decode cX11_put 22 = .ok (.iadd, 1) := by decide +kernel
theorem dX11_put_23 : decode cX11_put 23 = .ok (.iload_n 1, 1) := by decide +kernel
theorem dX11_put_24 : decode cX11_put 24 = .ok (.iastore, 1) := by decide +kernel
theorem dX11_put_25 : decode cX11_put 25 = .ok (.aload_n 0, 1) := by decide +kernel
theorem dX11_put_26 : decode cX11_put 26 = .ok (.getfield 37, 3) := by decide +kernel
theorem dX11_put_29 : decode cX11_put 29 = .ok (.sipush 160, 3) := by decide +kernel
theorem dX11_put_32 : decode cX11_put 32 = .ok (.aload_n 0, 1) := by decide +kernel
theorem dX11_put_33 : decode cX11_put 33 = .ok (.getfield 170, 3) := by decide +kernel
theorem dX11_put_36 : decode cX11_put 36 = .ok (.iadd, 1) := by decide +kernel
theorem dX11_put_37 : decode cX11_put 37 = .ok (.iload_n 2, 1) := by decide +kernel
theorem dX11_put_38 : decode cX11_put 38 = .ok (.iastore, 1) := by decide +kernel
theorem dX11_put_39 : decode cX11_put 39 = .ok (.aload_n 0, 1) := by decide +kernel
theorem dX11_put_40 : decode cX11_put 40 = .ok (.getfield 40, 3) := by decide +kernel
theorem dX11_put_43 : decode cX11_put 43 = .ok (.sipush 160, 3) := by decide +kernel
theorem dX11_put_46 : decode cX11_put 46 = .ok (.aload_n 0, 1) := by decide +kernel
theorem dX11_put_47 : decode cX11_put 47 = .ok (.getfield 170, 3) := by decide +kernel
theorem dX11_put_50 : decode cX11_put 50 = .ok (.iadd, 1) := by decide +kernel
theorem dX11_put_51 : decode cX11_put 51 = .ok (.iload_n 3, 1) := by decide +kernel
theorem dX11_put_52 : decode cX11_put 52 = .ok (.iastore, 1) := by decide +kernel
theorem dX11_put_53 : decode cX11_put 53 = .ok (.aload_n 0, 1) := by decide +kernel
theorem dX11_put_54 : decode cX11_put 54 = .ok (.dup, 1) := by decide +kernel
theorem dX11_put_55 : decode cX11_put 55 = .ok (.getfield 170, 3) := by decide +kernel
theorem dX11_put_58 : decode cX11_put 58 = .ok (.iconst 1, 1) := by decide +kernel
theorem dX11_put_59 : decode cX11_put 59 = .ok (.iadd, 1) := by decide +kernel
theorem dX11_put_60 : decode cX11_put 60 = .ok (.putfield 170, 3) := by decide +kernel
theorem dX11_put_63 : decode cX11_put 63 = .ok (.iconst 0, 1) := by decide +kernel
theorem dX11_put_64 : decode cX11_put 64 = .ok (.ireturn, 1) := by decide +kernel
theorem dX11_sign_0 : decode cX11_sign 0 = .ok (.aload_n 0, 1) := by decide +kernel
theorem dX11_sign_1 : decode cX11_sign 1 = .ok (.aload_n 0, 1) := by decide +kernel
theorem dX11_sign_2 : decode cX11_sign 2 = .ok (.getfield 173, 3) := by decide +kernel
theorem dX11_sign_5 : decode cX11_sign 5 = .ok (.iconst 1, 1) := by decide +kernel
theorem dX11_sign_6 : decode cX11_sign 6 = .ok (.iadd, 1) := by decide +kernel
theorem dX11_sign_7 : decode cX11_sign 7 = .ok (.invokevirtual 176, 3) := by decide +kernel
theorem dX11_sign_10 : decode cX11_sign 10 = .ok (.istore_n 1, 1) := by decide +kernel
theorem dX11_sign_11 : decode cX11_sign 11 = .ok (.aload_n 0, 1) := by decide +kernel
theorem dX11_sign_12 : decode cX11_sign 12 = .ok (.aload_n 0, 1) := by decide +kernel
theorem dX11_sign_13 : decode cX11_sign 13 = .ok (.getfield 173, 3) := by decide +kernel
theorem dX11_sign_16 : decode cX11_sign 16 = .ok (.iconst 2, 1) := by decide +kernel
theorem dX11_sign_17 : decode cX11_sign 17 = .ok (.iadd, 1) := by decide +kernel
theorem dX11_sign_18 : decode cX11_sign 18 = .ok (.invokevirtual 176, 3) := by decide +kernel
theorem dX11_sign_21 : decode cX11_sign 21 = .ok (.istore_n 2, 1) := by decide +kernel
theorem dX11_sign_22 : decode cX11_sign 22 = .ok (.iload_n 2, 1) := by decide +kernel
theorem dX11_sign_23 : decode cX11_sign 23 = .ok (.bipush 62, 2) := by decide +kernel
theorem dX11_sign_25 : decode cX11_sign 25 = .ok (.if_icmp .ne 7, 3) := by decide +kernel
theorem dX11_sign_28 : decode cX11_sign 28 = .ok (.iconst 1, 1) := by decide +kernel
theorem dX11_sign_29 : decode cX11_sign 29 = .ok (.goto 4, 3) := by decide +kernel
theorem dX11_sign_32 : decode cX11_sign 32 = .ok (.iconst 0, 1) := by decide +kernel
theorem dX11_sign_33 : decode cX11_sign 33 = .ok (.istore_n 3, 1) := by decide +kernel
theorem dX11_sign_34 : decode cX11_sign 34 = .ok (.iload_n 3, 1) := by decide +kernel
theorem dX11_sign_35 : decode cX11_sign 35 = .ok (.ifCond .eq 34, 3) := by decide +kernel
theorem dX11_sign_38 : decode cX11_sign 38 = .ok (.iload_n 1, 1) := by decide +kernel
theorem dX11_sign_39 : decode cX11_sign 39 = .ok (.bipush 60, 2) := by decide +kernel
theorem dX11_sign_41 : decode cX11_sign 41 = .ok (.if_icmp .ne 28, 3) := by decide +kernel
theorem dX11_sign_44 : decode cX11_sign 44 = .ok (.aload_n 0, 1) := by decide +kernel
theorem dX11_sign_45 : decode cX11_sign 45 = .ok (.iconst 0, 1) := by decide +kernel
theorem dX11_sign_46 : decode cX11_sign 46 = .ok (.aload_n 0, 1) := by decide +kernel
theorem dX11_sign_47 : decode cX11_sign 47 = .ok (.getfield 173, 3) := by decide +kernel
theorem dX11_sign_50 : decode cX11_sign 50 = .ok (.iconst 1, 1) := by decide +kernel
theorem dX11_sign_51 : decode cX11_sign 51 = .ok (.invokevirtual 179, 3) := by decide +kernel
theorem dX11_sign_54 : decode cX11_sign 54 = .ok (.istore 4, 2) := by decide +kernel
theorem dX11_sign_56 : decode cX11_sign 56 = .ok (.aload_n 0, 1) := by decide +kernel
theorem dX11_sign_57 : decode cX11_sign 57 = .ok (.dup, 1) := by decide +kernel
theorem dX11_sign_58 : decode cX11_sign 58 = .ok (.getfield 173, 3) := by decide +kernel
theorem dX11_sign_61 : decode cX11_sign 61 = .ok (.iconst 3, 1) := by decide +kernel
theorem dX11_sign_62 : decode cX11_sign 62 = .ok (.iadd, 1) := by decide +kernel
theorem dX11_sign_63 : decode cX11_sign 63 = .ok (.putfield 173, 3) := by decide +kernel
theorem dX11_sign_66 : decode cX11_sign 66 = .ok (.iload 4, 2) := by decide +kernel
theorem dX11_sign_68 : decode cX11_sign 68 = .ok (.ireturn, 1) := by decide +kernel
theorem dX11_sign_69 : decode cX11_sign 69 = .ok (.iconst (-1), 1) := by decide +kernel
theorem dX11_sign_70 : decode cX11_sign 70 = .ok (.istore 4, 2) := by decide +kernel
theorem dX11_sign_72 : decode cX11_sign 72 = .ok (.iconst 0, 1) := by decide +kernel
theorem dX11_sign_73 : decode cX11_sign 73 = .ok (.istore 5, 2) := by decide +kernel
theorem dX11_sign_75 : decode cX11_sign 75 = .ok (.iconst 0, 1) := by decide +kernel
theorem dX11_sign_76 : decode cX11_sign 76 = .ok (.istore 6, 2) := by decide +kernel
theorem dX11_sign_78 : decode cX11_sign 78 = .ok (.iconst 3, 1) := by decide +kernel
theorem dX11_sign_79 : decode cX11_sign 79 = .ok (.istore 7, 2) := by decide +kernel
theorem dX11_sign_81 : decode cX11_sign 81 = .ok (.iload_n 3, 1) := by decide +kernel
theorem dX11_sign_82 : decode cX11_sign 82 = .ok (.ifCond .eq 15, 3) := by decide +kernel
theorem dX11_sign_85 : decode cX11_sign 85 = .ok (.iload_n 1, 1) := by decide +kernel
theorem dX11_sign_86 : decode cX11_sign 86 = .ok (.bipush 110, 2) := by decide +kernel
theorem dX11_sign_88 : decode cX11_sign 88 = .ok (.if_icmp .ne 9, 3) := by decide +kernel
theorem dX11_sign_91 : decode cX11_sign 91 = .ok (.iconst 1, 1) := by decide +kernel
theorem dX11_sign_92 : decode cX11_sign 92 = .ok (.istore 4, 2) := by decide +kernel
theorem dX11_sign_94 : decode cX11_sign 94 = .ok (.goto 75, 3) := by decide +kernel
theorem dX11_sign_97 : decode cX11_sign 97 = .ok (.iload_n 3, 1) := by decide +kernel
theorem dX11_sign_98 : decode cX11_sign 98 = .ok (.ifCond .eq 20, 3) := by decide +kernel
theorem dX11_sign_101 : decode cX11_sign 101 = .ok (.iload_n 1, 1) := by decide +kernel
theorem dX11_sign_102 : decode cX11_sign 102 = .ok (.bipush 48, 2) := by decide +kernel
theorem dX11_sign_104 : decode cX11_sign 104 = .ok (.bipush 51, 2) := by decide +kernel
theorem dX11_sign_106 : decode cX11_sign 106 = .ok (.invokestatic 130, 3) := by decide +kernel
theorem dX11_sign_109 : decode cX11_sign 109 = .ok (.ifCond .eq 9, 3) := by decide +kernel
theorem dX11_sign_112 : decode cX11_sign 112 = .ok (.iconst 2, 1) := by decide +kernel
theorem dX11_sign_113 : decode cX11_sign 113 = .ok (.istore 4, 2) := by decide +kernel
theorem dX11_sign_115 : decode cX11_sign 115 = .ok (.goto 54, 3) := by decide +kernel
theorem dX11_sign_118 : decode cX11_sign 118 = .ok (.iload_n 3, 1) := by decide +kernel
theorem dX11_sign_119 : decode cX11_sign 119 = .ok (.ifCond .eq 15, 3) := by decide +kernel
theorem dX11_sign_122 : decode cX11_sign 122 = .ok (.iload_n 1, 1) := by decide +kernel
theorem dX11_sign_123 : decode cX11_sign 123 = .ok (.bipush 61, 2) := by decide +kernel
theorem dX11_sign_125 : decode cX11_sign 125 = .ok (.if_icmp .ne 9, 3) := by decide +kernel
theorem dX11_sign_128 : decode cX11_sign 128 = .ok (.iconst 4, 1) := by decide +kernel
theorem dX11_sign_129 : decode cX11_sign 129 = .ok (.istore 4, 2) := by decide +kernel
theorem dX11_sign_131 : decode cX11_sign 131 = .ok (.goto 38, 3) := by decide +kernel
theorem dX11_sign_134 : decode cX11_sign 134 = .ok (.iload_n 3, 1) := by decide +kernel
theorem dX11_sign_135 : decode cX11_sign 135 = .ok (.ifCond .eq 20, 3) := by decide +kernel
theorem dX11_sign_138 : decode cX11_sign 138 = .ok (.iload_n 1, 1) := by decide +kernel
theorem dX11_sign_139 : decode cX11_sign 139 = .ok (.bipush 97, 2) := by decide +kernel
theorem dX11_sign_141 : decode cX11_sign 141 = .ok (.bipush 104, 2) := by decide +kernel
theorem dX11_sign_143 : decode cX11_sign 143 = .ok (.invokestatic 130, 3) := by decide +kernel
theorem dX11_sign_146 : decode cX11_sign 146 = .ok (.ifCond .eq 9, 3) := by decide +kernel
theorem dX11_sign_149 : decode cX11_sign 149 = .ok (.iconst 5, 1) := by decide +kernel
theorem dX11_sign_150 : decode cX11_sign 150 = .ok (.istore 4, 2) := by decide +kernel
theorem dX11_sign_152 : decode cX11_sign 152 = .ok (.goto 17, 3) := by decide +kernel
theorem dX11_sign_155 : decode cX11_sign 155 = .ok (.iload_n 3, 1) := by decide +kernel
theorem dX11_sign_156 : decode cX11_sign 156 = .ok (.ifCond .eq 13, 3) := by decide +kernel
theorem dX11_sign_159 : decode cX11_sign 159 = .ok (.iload_n 1, 1) := by decide +kernel
theorem dX11_sign_160 : decode cX11_sign 160 = .ok (.bipush 33, 2) := by decide +kernel
theorem dX11_sign_162 : decode cX11_sign 162 = .ok (.if_icmp .ne 7, 3) := by decide +kernel
theorem dX11_sign_165 : decode cX11_sign 165 = .ok (.bipush 7, 2) := by decide +kernel
theorem dX11_sign_167 : decode cX11_sign 167 = .ok (.istore 4, 2) := by decide +kernel
theorem dX11_sign_169 : decode cX11_sign 169 = .ok (.iload 4, 2) := by decide +kernel
theorem dX11_sign_171 : decode cX11_sign 171 = .ok (.iconst 2, 1) := by decide +kernel
theorem dX11_sign_172 : decode cX11_sign 172 = .ok (.if_icmp .ne 9, 3) := by decide +kernel
theorem dX11_sign_175 : decode cX11_sign 175 = .ok (.iload_n 1, 1) := by decide +kernel
theorem dX11_sign_176 : decode cX11_sign 176 = .ok (.bipush 48, 2) := by decide +kernel
theorem dX11_sign_178 : decode cX11_sign 178 = .ok (.isub, 1) := by decide +kernel
theorem dX11_sign_179 : decode cX11_sign 179 = .ok (.istore 5, 2) := by decide +kernel
theorem dX11_sign_181 : decode cX11_sign 181 = .ok (.iload 4, 2) := by decide +kernel
theorem dX11_sign_183 : decode cX11_sign 183 = .ok (.iconst 5, 1) := by decide +kernel
theorem dX11_sign_184 : decode cX11_sign 184 = .ok (.if_icmp .ne 9, 3) := by decide +kernel
theorem dX11_sign_187 : decode cX11_sign 187 = .ok (.iload_n 1, 1) := by decide +kernel
theorem dX11_sign_188 : decode cX11_sign 188 = .ok (.bipush 97, 2) := by decide +kernel
theorem dX11_sign_190 : decode cX11_sign 190 = .ok (.isub, 1) := by decide +kernel
theorem dX11_sign_191 : decode cX11_sign 191 = .ok (.istore 5, 2) := by decide +kernel
theorem dX11_sign_193 : decode cX11_sign 193 = .ok (.iload 4, 2) := by decide +kernel
theorem dX11_sign_195 : decode cX11_sign 195 = .ok (.ifCond .ge 48, 3) := by decide +kernel
theorem dX11_sign_198 : decode cX11_sign 198 = .ok (.iload_n 1, 1) := by decide +kernel
theorem dX11_sign_199 : decode cX11_sign 199 = .ok (.bipush 63, 2) := by decide +kernel
theorem dX11_sign_201 : decode cX11_sign 201 = .ok (.if_icmp .ne 42, 3) := by decide +kernel
theorem dX11_sign_204 : decode cX11_sign 204 = .ok (.iload_n 2, 1) := by decide +kernel
theorem dX11_sign_205 : decode cX11_sign 205 = .ok (.bipush 48, 2) := by decide +kernel
theorem dX11_sign_207 : decode cX11_sign 207 = .ok (.bipush 51, 2) := by decide +kernel
theorem dX11_sign_209 : decode cX11_sign 209 = .ok (.invokestatic 130, 3) := by decide +kernel
theorem dX11_sign_212 : decode cX11_sign 212 = .ok (.ifCond .eq 31, 3) := by decide +kernel
theorem dX11_sign_215 : decode cX11_sign 215 = .ok (.aload_n 0, 1) := by decide +kernel
theorem dX11_sign_216 : decode cX11_sign 216 = .ok (.aload_n 0, 1) := by decide +kernel
theorem dX11_sign_217 : decode cX11_sign 217 = .ok (.getfield 173, 3) := by decide +kernel
theorem dX11_sign_220 : decode cX11_sign 220 = .ok (.iconst 3, 1) := by decide +kernel
theorem dX11_sign_221 : decode cX11_sign 221 = .ok (.iadd, 1) := by decide +kernel
theorem dX11_sign_222 : decode cX11_sign 222 = .ok (.invokevirtual 176, 3) := by decide +kernel
theorem dX11_sign_225 : decode cX11_sign 225 = .ok (.bipush 62, 2) := by decide +kernel
theorem dX11_sign_227 : decode cX11_sign 227 = .ok (.if_icmp .ne 16, 3) := by decide +kernel
theorem dX11_sign_230 : decode cX11_sign 230 = .ok (.bipush 6, 2) := by decide +kernel
theorem dX11_sign_232 : decode cX11_sign 232 = .ok (.istore 4, 2) := by decide +kernel
theorem dX11_sign_234 : decode cX11_sign 234 = .ok (.iload_n 2, 1) := by decide +kernel
theorem dX11_sign_235 : decode cX11_sign 235 = .ok (.bipush 48, 2) := by decide +kernel
theorem dX11_sign_237 : decode cX11_sign 237 = .ok (.isub, 1) := by decide +kernel
theorem dX11_sign_238 : decode cX11_sign 238 = .ok (.istore 5, 2) := by decide +kernel
theorem dX11_sign_240 : decode cX11_sign 240 = .ok (.iconst 4, 1) := by decide +kernel
theorem dX11_sign_241 : decode cX11_sign 241 = .ok (.istore 7, 2) := by decide +kernel
theorem dX11_sign_243 : decode cX11_sign 243 = .ok (.iload 4, 2) := by decide +kernel
theorem dX11_sign_245 : decode cX11_sign 245 = .ok (.ifCond .ge 82, 3) := by decide +kernel
theorem dX11_sign_248 : decode cX11_sign 248 = .ok (.iload_n 1, 1) := by decide +kernel
theorem dX11_sign_249 : decode cX11_sign 249 = .ok (.bipush 43, 2) := by decide +kernel
theorem dX11_sign_251 : decode cX11_sign 251 = .ok (.if_icmp .ne 76, 3) := by decide +kernel
theorem dX11_sign_254 : decode cX11_sign 254 = .ok (.iload_n 2, 1) := by decide +kernel
theorem dX11_sign_255 : decode cX11_sign 255 = .ok (.bipush 48, 2) := by decide +kernel
theorem dX11_sign_257 : decode cX11_sign 257 = .ok (.bipush 51, 2) := by decide +kernel
theorem dX11_sign_259 : decode cX11_sign 259 = .ok (.invokestatic 130, 3) := by decide +kernel
theorem dX11_sign_262 : decode cX11_sign 262 = .ok (.ifCond .eq 65, 3) := by decide +kernel
theorem dX11_sign_265 : decode cX11_sign 265 = .ok (.aload_n 0, 1) := by decide +kernel
theorem dX11_sign_266 : decode cX11_sign 266 = .ok (.aload_n 0, 1) := by decide +kernel
theorem dX11_sign_267 : decode cX11_sign 267 = .ok (.getfield 173, 3) := by decide +kernel
theorem dX11_sign_270 : decode cX11_sign 270 = .ok (.iconst 3, 1) := by decide +kernel
theorem dX11_sign_271 : decode cX11_sign 271 = .ok (.iadd, 1) := by decide +kernel
theorem dX11_sign_272 : decode cX11_sign 272 = .ok (.invokevirtual 176, 3) := by decide +kernel
theorem dX11_sign_275 : decode cX11_sign 275 = .ok (.bipush 48, 2) := by decide +kernel
theorem dX11_sign_277 : decode cX11_sign 277 = .ok (.bipush 51, 2) := by decide +kernel
theorem dX11_sign_279 : decode cX11_sign 279 = .ok (.invokestatic 130, 3) := by decide +kernel
theorem dX11_sign_282 : decode cX11_sign 282 = .ok (.ifCond .eq 45, 3) := by decide +kernel
theorem dX11_sign_285 : decode cX11_sign 285 = .ok (.aload_n 0, 1) := by decide +kernel
theorem dX11_sign_286 : decode cX11_sign 286 = .ok (.aload_n 0, 1) := by decide +kernel
theorem dX11_sign_287 : decode cX11_sign 287 = .ok (.getfield 173, 3) := by decide +kernel
theorem dX11_sign_290 : decode cX11_sign 290 = .ok (.iconst 4, 1) := by decide +kernel
theorem dX11_sign_291 : decode cX11_sign 291 = .ok (.iadd, 1) := by decide +kernel
theorem dX11_sign_292 : decode cX11_sign 292 = .ok (.invokevirtual 176, 3) := by decide +kernel
theorem dX11_sign_295 : decode cX11_sign 295 = .ok (.bipush 62, 2) := by decide +kernel
theorem dX11_sign_297 : decode cX11_sign 297 = .ok (.if_icmp .ne 30, 3) := by decide +kernel
theorem dX11_sign_300 : decode cX11_sign 300 = .ok (.iconst 3, 1) := by decide +kernel
theorem dX11_sign_301 : decode cX11_sign 301 = .ok (.istore 4, 2) := by decide +kernel
theorem dX11_sign_303 : decode cX11_sign 303 = .ok (.iload_n 2, 1) := by decide +kernel
theorem dX11_sign_304 : decode cX11_sign 304 = .ok (.bipush 48, 2) := by decide +kernel
theorem dX11_sign_306 : decode cX11_sign 306 = .ok (.isub, 1) := by decide +kernel
theorem dX11_sign_307 : decode cX11_sign 307 = .ok (.istore 5, 2) := by decide +kernel
theorem dX11_sign_309 : decode cX11_sign 309 = .ok (.aload_n 0, 1) := by decide +kernel
theorem dX11_sign_310 : decode cX11_sign 310 = .ok (.aload_n 0, 1) := by decide +kernel
theorem dX11_sign_311 : decode cX11_sign 311 = .ok (.getfield 173, 3) := by decide +kernel
theorem dX11_sign_314 : decode cX11_sign 314 = .ok (.iconst 3, 1) := by decide +kernel
theorem dX11_sign_315 : decode cX11_sign 315 = .ok (.iadd, 1) := by decide +kernel
theorem dX11_sign_316 : decode cX11_sign 316 = .ok (.invokevirtual 176, 3) := by decide +kernel
theorem dX11_sign_319 : decode cX11_sign 319 = .ok (.bipush 48, 2) := by decide +kernel
theorem dX11_sign_321 : decode cX11_sign 321 = .ok (.isub, 1) := by decide +kernel
theorem dX11_sign_322 : decode cX11_sign 322 = .ok (.istore 6, 2) := by decide +kernel
theorem dX11_sign_324 : decode cX11_sign 324 = .ok (.iconst 5, 1) := by decide +kernel
theorem dX11_sign_325 : decode cX11_sign 325 = .ok (.istore 7, 2) := by decide +kernel
theorem dX11_sign_327 : decode cX11_sign 327 = .ok (.iload 4, 2) := by decide +kernel
theorem dX11_sign_329 : decode cX11_sign 329 = .ok (.ifCond .ge 5, 3) := by decide +kernel
theorem dX11_sign_332 : decode cX11_sign 332 = .ok (.iconst 2, 1) := by decide +kernel
theorem dX11_sign_333 : decode cX11_sign 333 = .ok (.ireturn, 1) := by decide +kernel
theorem dX11_sign_334 : decode cX11_sign 334 = .ok (.iload 4, 2) := by decide +kernel
theorem dX11_sign_336 : decode cX11_sign 336 = .ok (.bipush 6, 2) := by decide +kernel
theorem dX11_sign_338 : decode cX11_sign 338 = .ok (.if_icmp .ne 10, 3) := by decide +kernel
theorem dX11_sign_341 : decode cX11_sign 341 = .ok (.aload_n 0, 1) := by decide +kernel
theorem dX11_sign_342 : decode cX11_sign 342 = .ok (.getfield 183, 3) := by decide +kernel
theorem dX11_sign_345 : decode cX11_sign 345 = .ok (.ifCond .ne 17, 3) := by decide +kernel
theorem dX11_sign_348 : decode cX11_sign 348 = .ok (.iload 4, 2) := by decide +kernel
theorem dX11_sign_350 : decode cX11_sign 350 = .ok (.bipush 7, 2) := by decide +kernel
theorem dX11_sign_352 : decode cX11_sign 352 = .ok (.if_icmp .ne 12, 3) := by decide +kernel
theorem dX11_sign_355 : decode cX11_sign 355 = .ok (.aload_n 0, 1) := by decide +kernel
theorem dX11_sign_356 : decode cX11_sign 356 = .ok (.getfield 183, 3) := by decide +kernel
theorem dX11_sign_359 : decode cX11_sign 359 = .ok (.ifCond .ne 5, 3) := by decide +kernel
theorem dX11_sign_362 : decode cX11_sign 362 = .ok (.iconst 3, 1) := by decide +kernel
theorem dX11_sign_363 : decode cX11_sign 363 = .ok (.ireturn, 1) := by decide +kernel
theorem dX11_sign_364 : decode cX11_sign 364 = .ok (.aload_n 0, 1) := by decide +kernel
theorem dX11_sign_365 : decode cX11_sign 365 = .ok (.iload 4, 2) := by decide +kernel
theorem dX11_sign_367 : decode cX11_sign 367 = .ok (.iload 5, 2) := by decide +kernel
theorem dX11_sign_369 : decode cX11_sign 369 = .ok (.iload 6, 2) := by decide +kernel
theorem dX11_sign_371 : decode cX11_sign 371 = .ok (.invokevirtual 179, 3) := by decide +kernel
theorem dX11_sign_374 : decode cX11_sign 374 = .ok (.istore 8, 2) := by decide +kernel
theorem dX11_sign_376 : decode cX11_sign 376 = .ok (.iload 8, 2) := by decide +kernel
theorem dX11_sign_378 : decode cX11_sign 378 = .ok (.ifCond .eq 6, 3) := by decide +kernel
theorem dX11_sign_381 : decode cX11_sign 381 = .ok (.iload 8, 2) := by decide +kernel
theorem dX11_sign_383 : decode cX11_sign 383 = .ok (.ireturn, 1) := by decide +kernel
theorem dX11_sign_384 : decode cX11_sign 384 = .ok (.iload 4, 2) := by decide +kernel
theorem dX11_sign_386 : decode cX11_sign 386 = .ok (.bipush 6, 2) := by decide +kernel
theorem dX11_sign_388 : decode cX11_sign 388 = .ok (.if_icmp .ne 8, 3) := by decide +kernel
theorem dX11_sign_391 : decode cX11_sign 391 = .ok (.aload_n 0, 1) := by decide +kernel
theorem dX11_sign_392 : decode cX11_sign 392 = .ok (.iconst 1, 1) := by decide +kernel
theorem dX11_sign_393 : decode cX11_sign 393 = .ok (.putfield 183, 3) := by decide +kernel
theorem dX11_sign_396 : decode cX11_sign 396 = .ok (.iload 4, 2) := by decide +kernel
theorem dX11_sign_398 : decode cX11_sign 398 = .ok (.bipush 7, 2) := by decide +kernel
theorem dX11_sign_400 : decode cX11_sign 400 = .ok (.if_icmp .ne 8, 3) := by decide +kernel
theorem dX11_sign_403 : decode cX11_sign 403 = .ok (.aload_n 0, 1) := by decide +kernel
theorem dX11_sign_404 : decode cX11_sign 404 = .ok (.iconst 0, 1) := by decide +kernel
theorem dX11_sign_405 : decode cX11_sign 405 = .ok (.putfield 183, 3) := by decide +kernel
theorem dX11_sign_408 : decode cX11_sign 408 = .ok (.aload_n 0, 1) := by decide +kernel
theorem dX11_sign_409 : decode cX11_sign 409 = .ok (.dup, 1) := by decide +kernel
theorem dX11_sign_410 : decode cX11_sign 410 = .ok (.getfield 173, 3) := by decide +kernel
theorem dX11_sign_413 : decode cX11_sign 413 = .ok (.iload 7, 2) := by decide +kernel
theorem dX11_sign_415 : decode cX11_sign 415 = .ok (.iadd, 1) := by decide +kernel
theorem dX11_sign_416 : decode cX11_sign 416 = .ok (.putfield 173, 3) := by decide +kernel
theorem dX11_sign_419 : decode cX11_sign 419 = .ok (.iconst 0, 1) := by decide +kernel
theorem dX11_sign_420 : decode cX11_sign 420 = .ok (.ireturn, 1) := by decide +kernel
theorem dX11_readRule_0 : decode cX11_readRule 0 = .ok (.aload_n 0, 1) := by decide +kernel
theorem dX11_readRule_1 : decode cX11_readRule 1 = .ok (.iconst 0, 1) := by decide +kernel
theorem dX11_readRule_2 : decode cX11_readRule 2 = .ok (.putfield 173, 3) := by decide +kernel
theorem dX11_readRule_5 : decode cX11_readRule 5 = .ok (.aload_n 0, 1) := by decide +kernel
theorem dX11_readRule_6 : decode cX11_readRule 6 = .ok (.iconst 0, 1) := by decide +kernel
theorem dX11_readRule_7 : decode cX11_readRule 7 = .ok (.putfield 170, 3) := by decide +kernel
theorem dX11_readRule_10 : decode cX11_readRule 10 = .ok (.aload_n 0, 1) := by decide +kernel
theorem dX11_readRule_11 : decode cX11_readRule 11 = .ok (.iconst 0, 1) := by decide +kernel
theorem dX11_readRule_12 : decode cX11_readRule 12 = .ok (.putfield 183, 3) := by decide +kernel
theorem dX11_readRule_15 : decode cX11_readRule 15 = .ok (.aload_n 0, 1) := by decide +kernel
theorem dX11_readRule_16 : decode cX11_readRule 16 = .ok (.getfield 173, 3) := by decide +kernel
theorem dX11_readRule_19 : decode cX11_readRule 19 = .ok (.aload_n 0, 1) := by decide +kernel
theorem dX11_readRule_20 : decode cX11_readRule 20 = .ok (.getfield 134, 3) := by decide +kernel
theorem dX11_readRule_23 : decode cX11_readRule 23 = .ok (.if_icmp .ge 167, 3) := by decide +kernel
theorem dX11_readRule_26 : decode cX11_readRule 26 = .ok (.aload_n 0, 1) := by decide +kernel
theorem dX11_readRule_27 : decode cX11_readRule 27 = .ok (.aload_n 0, 1) := by decide +kernel
theorem dX11_readRule_28 : decode cX11_readRule 28 = .ok (.getfield 173, 3) := by decide +kernel
theorem dX11_readRule_31 : decode cX11_readRule 31 = .ok (.putfield 50, 3) := by decide +kernel
theorem dX11_readRule_34 : decode cX11_readRule 34 = .ok (.aload_n 0, 1) := by decide +kernel
theorem dX11_readRule_35 : decode cX11_readRule 35 = .ok (.getfield 53, 3) := by decide +kernel
theorem dX11_readRule_38 : decode cX11_readRule 38 = .ok (.aload_n 0, 1) := by decide +kernel
theorem dX11_readRule_39 : decode cX11_readRule 39 = .ok (.getfield 173, 3) := by decide +kernel
theorem dX11_readRule_42 : decode cX11_readRule 42 = .ok (.iaload, 1) := by decide +kernel
theorem dX11_readRule_43 : decode cX11_readRule 43 = .ok (.bipush 60, 2) := by decide +kernel
theorem dX11_readRule_45 : decode cX11_readRule 45 = .ok (.if_icmp .ne 14, 3) := by decide +kernel
theorem dX11_readRule_48 : decode cX11_readRule 48 = .ok (.aload_n 0, 1) := by decide +kernel
theorem dX11_readRule_49 : decode cX11_readRule 49 = .ok (.invokevirtual 187, 3) := by decide +kernel
theorem dX11_readRule_52 : decode cX11_readRule 52 = .ok (.istore_n 1, 1) := by decide +kernel
theorem dX11_readRule_53 : decode cX11_readRule 53 = .ok (.iload_n 1, 1) := by decide +kernel
theorem dX11_readRule_54 : decode cX11_readRule 54 = .ok (.ifCond .eq (-39), 3) := by decide +kernel
theorem dX11_readRule_57 : decode cX11_readRule 57 = .ok (.iload_n 1, 1) := by decide +kernel
theorem dX11_readRule_58 : decode cX11_readRule 58 = .ok (.ireturn, 1) := by decide +kernel
theorem dX11_readRule_59 : decode cX11_readRule 59 = .ok (.aload_n 0, 1) := by decide +kernel
theorem dX11_readRule_60 : decode cX11_readRule 60 = .ok (.getfield 173, 3) := by decide +kernel
theorem dX11_readRule_63 : decode cX11_readRule 63 = .ok (.istore_n 1, 1) := by decide +kernel
theorem dX11_readRule_64 : decode cX11_readRule 64 = .ok (.aload_n 0, 1) := by decide +kernel
theorem dX11_readRule_65 : decode cX11_readRule 65 = .ok (.getfield 53, 3) := by decide +kernel
theorem dX11_readRule_68 : decode cX11_readRule 68 = .ok (.aload_n 0, 1) := by decide +kernel
theorem dX11_readRule_69 : decode cX11_readRule 69 = .ok (.getfield 173, 3) := by decide +kernel
theorem dX11_readRule_72 : decode cX11_readRule 72 = .ok (.iaload, 1) := by decide +kernel
theorem dX11_readRule_73 : decode cX11_readRule 73 = .ok (.bipush 32, 2) := by decide +kernel
theorem dX11_readRule_75 : decode cX11_readRule 75 = .ok (.bipush 126, 2) := by decide +kernel
theorem dX11_readRule_77 : decode cX11_readRule 77 = .ok (.invokestatic 130, 3) := by decide +kernel
theorem dX11_readRule_80 : decode cX11_readRule 80 = .ok (.ifCond .ne 5, 3) := by decide +kernel
theorem dX11_readRule_83 : decode cX11_readRule 83 = .ok (.iconst 1, 1) := by decide +kernel
theorem dX11_readRule_84 : decode cX11_readRule 84 = .ok (.ireturn, 1) := by decide +kernel
theorem dX11_readRule_85 : decode cX11_readRule 85 = .ok (.aload_n 0, 1) := by decide +kernel
theorem dX11_readRule_86 : decode cX11_readRule 86 = .ok (.iconst 0, 1) := by decide +kernel
theorem dX11_readRule_87 : decode cX11_readRule 87 = .ok (.iload_n 1, 1) := by decide +kernel
theorem dX11_readRule_88 : decode cX11_readRule 88 = .ok (.iconst 0, 1) := by decide +kernel
theorem dX11_readRule_89 : decode cX11_readRule 89 = .ok (.invokevirtual 179, 3) := by decide +kernel
theorem dX11_readRule_92 : decode cX11_readRule 92 = .ok (.istore_n 2, 1) := by decide +kernel
theorem dX11_readRule_93 : decode cX11_readRule 93 = .ok (.iload_n 2, 1) := by decide +kernel
theorem dX11_readRule_94 : decode cX11_readRule 94 = .ok (.ifCond .eq 5, 3) := by decide +kernel
theorem dX11_readRule_97 : decode cX11_readRule 97 = .ok (.iload_n 2, 1) := by decide +kernel
theorem dX11_readRule_98 : decode cX11_readRule 98 = .ok (.ireturn, 1) := by decide +kernel
theorem dX11_readRule_99 : decode cX11_readRule 99 = .ok (.aload_n 0, 1) := by decide +kernel
theorem dX11_readRule_100 : decode cX11_readRule 100 = .ok (.getfield 173, 3) := by decide +kernel
theorem dX11_readRule_103 : decode cX11_readRule 103 = .ok (.aload_n 0, 1) := by decide +kernel
theorem dX11_readRule_104 : decode cX11_readRule 104 = .ok (.getfield 134, 3) := by decide +kernel
theorem dX11_readRule_107 : decode cX11_readRule 107 = .ok (.if_icmp .ge 59, 3) := by decide +kernel
theorem dX11_readRule_110 : decode cX11_readRule 110 = .ok (.aload_n 0, 1) := by decide +kernel
theorem dX11_readRule_111 : decode cX11_readRule 111 = .ok (.getfield 53, 3) := by decide +kernel
theorem dX11_readRule_114 : decode cX11_readRule 114 = .ok (.aload_n 0, 1) := by decide +kernel
theorem dX11_readRule_115 : decode cX11_readRule 115 = .ok (.getfield 173, 3) := by decide +kernel
theorem dX11_readRule_118 : decode cX11_readRule 118 = .ok (.iaload, 1) := by decide +kernel
theorem dX11_readRule_119 : decode cX11_readRule 119 = .ok (.bipush 60, 2) := by decide +kernel
theorem dX11_readRule_121 : decode cX11_readRule 121 = .ok (.if_icmp .eq 45, 3) := by decide +kernel
theorem dX11_readRule_124 : decode cX11_readRule 124 = .ok (.aload_n 0, 1) := by decide +kernel
theorem dX11_readRule_125 : decode cX11_readRule 125 = .ok (.aload_n 0, 1) := by decide +kernel
theorem dX11_readRule_126 : decode cX11_readRule 126 = .ok (.getfield 173, 3) := by decide +kernel
theorem dX11_readRule_129 : decode cX11_readRule 129 = .ok (.putfield 50, 3) := by decide +kernel
theorem dX11_readRule_132 : decode cX11_readRule 132 = .ok (.aload_n 0, 1) := by decide +kernel
theorem dX11_readRule_133 : decode cX11_readRule 133 = .ok (.getfield 53, 3) := by decide +kernel
theorem dX11_readRule_136 : decode cX11_readRule 136 = .ok (.aload_n 0, 1) := by decide +kernel
theorem dX11_readRule_137 : decode cX11_readRule 137 = .ok (.getfield 173, 3) := by decide +kernel
theorem dX11_readRule_140 : decode cX11_readRule 140 = .ok (.iaload, 1) := by decide +kernel
theorem dX11_readRule_141 : decode cX11_readRule 141 = .ok (.bipush 32, 2) := by decide +kernel
theorem dX11_readRule_143 : decode cX11_readRule 143 = .ok (.bipush 126, 2) := by decide +kernel
theorem dX11_readRule_145 : decode cX11_readRule 145 = .ok (.invokestatic 130, 3) := by decide +kernel
theorem dX11_readRule_148 : decode cX11_readRule 148 = .ok (.ifCond .ne 5, 3) := by decide +kernel
theorem dX11_readRule_151 : decode cX11_readRule 151 = .ok (.iconst 1, 1) := by decide +kernel
theorem dX11_readRule_152 : decode cX11_readRule 152 = .ok (.ireturn, 1) := by decide +kernel
theorem dX11_readRule_153 : decode cX11_readRule 153 = .ok (.aload_n 0, 1) := by decide +kernel
theorem dX11_readRule_154 : decode cX11_readRule 154 = .ok (.dup, 1) := by decide +kernel
theorem dX11_readRule_155 : decode cX11_readRule 155 = .ok (.getfield 173, 3) := by decide +kernel
theorem dX11_readRule_158 : decode cX11_readRule 158 = .ok (.iconst 1, 1) := by decide +kernel
theorem dX11_readRule_159 : decode cX11_readRule 159 = .ok (.iadd, 1) := by decide +kernel
theorem dX11_readRule_160 : decode cX11_readRule 160 = .ok (.putfield 173, 3) := by decide +kernel
theorem dX11_readRule_163 : decode cX11_readRule 163 = .ok (.goto (-64), 3) := by decide +kernel
theorem dX11_readRule_166 : decode cX11_readRule 166 = .ok (.aload_n 0, 1) := by decide +kernel
theorem dX11_readRule_167 : decode cX11_readRule 167 = .ok (.getfield 40, 3) := by decide +kernel
theorem dX11_readRule_170 : decode cX11_readRule 170 = .ok (.sipush 160, 3) := by decide +kernel
theorem dX11_readRule_173 : decode cX11_readRule 173 = .ok (.aload_n 0, 1) := by decide +kernel
theorem dX11_readRule_174 : decode cX11_readRule 174 = .ok (.getfield 170, 3) := by decide +kernel
theorem dX11_readRule_177 : decode cX11_readRule 177 = .ok (.iadd, 1) := by decide +kernel
theorem dX11_readRule_178 : decode cX11_readRule 178 = .ok (.iconst 1, 1) := by decide +kernel
theorem dX11_readRule_179 : decode cX11_readRule 179 = .ok (.isub, 1) := by decide +kernel
theorem dX11_readRule_180 : decode cX11_readRule 180 = .ok (.aload_n 0, 1) := by decide +kernel
theorem dX11_readRule_181 : decode cX11_readRule 181 = .ok (.getfield 173, 3) := by decide +kernel
theorem dX11_readRule_184 : decode cX11_readRule 184 = .ok (.iload_n 1, 1) := by decide +kernel
theorem dX11_readRule_185 : decode cX11_readRule 185 = .ok (.isub, 1) := by decide +kernel
theorem dX11_readRule_186 : decode cX11_readRule 186 = .ok (.iastore, 1) := by decide +kernel
theorem dX11_readRule_187 : decode cX11_readRule 187 = .ok (.goto (-172), 3) := by decide +kernel
theorem dX11_readRule_190 : decode cX11_readRule 190 = .ok (.aload_n 0, 1) := by decide +kernel
theorem dX11_readRule_191 : decode cX11_readRule 191 = .ok (.aload_n 0, 1) := by decide +kernel
theorem dX11_readRule_192 : decode cX11_readRule 192 = .ok (.getfield 134, 3) := by decide +kernel
theorem dX11_readRule_195 : decode cX11_readRule 195 = .ok (.putfield 50, 3) := by decide +kernel
theorem dX11_readRule_198 : decode cX11_readRule 198 = .ok (.aload_n 0, 1) := by decide +kernel
theorem dX11_readRule_199 : decode cX11_readRule 199 = .ok (.getfield 183, 3) := by decide +kernel
theorem dX11_readRule_202 : decode cX11_readRule 202 = .ok (.ifCond .eq 7, 3) := by decide +kernel
theorem dX11_readRule_205 : decode cX11_readRule 205 = .ok (.iconst 4, 1) := by decide +kernel
theorem dX11_readRule_206 : decode cX11_readRule 206 = .ok (.goto 4, 3) := by decide +kernel
theorem dX11_readRule_209 : decode cX11_readRule 209 = .ok (.iconst 0, 1) := by decide +kernel
theorem dX11_readRule_210 : decode cX11_readRule 210 = .ok (.ireturn, 1) := by decide +kernel
theorem dX11_rule_0 : decode cX11_rule 0 = .ok (.iload_n 1, 1) := by decide +kernel
theorem dX11_rule_1 : decode cX11_rule 1 = .ok (.iconst 0, 1) := by decide +kernel
theorem dX11_rule_2 : decode cX11_rule 2 = .ok (.bipush 7, 2) := by decide +kernel
theorem dX11_rule_4 : decode cX11_rule 4 = .ok (.invokestatic 130, 3) := by decide +kernel
theorem dX11_rule_7 : decode cX11_rule 7 = .ok (.ifCond .ne 5, 3) := by decide +kernel
theorem dX11_rule_10 : decode cX11_rule 10 = .ok (.iconst (-1), 1) := by decide +kernel
theorem dX11_rule_11 : decode cX11_rule 11 = .ok (.ireturn, 1) := by decide +kernel
theorem dX11_rule_12 : decode cX11_rule 12 = .ok (.aload_n 0, 1) := by decide +kernel
theorem dX11_rule_13 : decode cX11_rule 13 = .ok (.aload_n 0, 1) := by decide +kernel
theorem dX11_rule_14 : decode cX11_rule 14 = .ok (.invokevirtual 191, 3) := by decide +kernel
theorem dX11_rule_17 : decode cX11_rule 17 = .ok (.putfield 46, 3) := by decide +kernel
theorem dX11_rule_20 : decode cX11_rule 20 = .ok (.aload_n 0, 1) := by decide +kernel
theorem dX11_rule_21 : decode cX11_rule 21 = .ok (.getfield 46, 3) := by decide +kernel
theorem dX11_rule_24 : decode cX11_rule 24 = .ok (.ifCond .ne 128, 3) := by decide +kernel
theorem dX11_rule_27 : decode cX11_rule 27 = .ok (.aload_n 0, 1) := by decide +kernel
theorem dX11_rule_28 : decode cX11_rule 28 = .ok (.iconst (-1), 1) := by decide +kernel
theorem dX11_rule_29 : decode cX11_rule 29 = .ok (.putfield 50, 3) := by decide +kernel
theorem dX11_rule_32 : decode cX11_rule 32 = .ok (.aload_n 0, 1) := by decide +kernel
theorem dX11_rule_33 : decode cX11_rule 33 = .ok (.getfield 31, 3) := by decide +kernel
theorem dX11_rule_36 : decode cX11_rule 36 = .ok (.iload_n 1, 1) := by decide +kernel
theorem dX11_rule_37 : decode cX11_rule 37 = .ok (.aload_n 0, 1) := by decide +kernel
theorem dX11_rule_38 : decode cX11_rule 38 = .ok (.getfield 170, 3) := by decide +kernel
theorem dX11_rule_41 : decode cX11_rule 41 = .ok (.iastore, 1) := by decide +kernel
theorem dX11_rule_42 : decode cX11_rule 42 = .ok (.iconst 0, 1) := by decide +kernel
theorem dX11_rule_43 : decode cX11_rule 43 = .ok (.istore_n 2, 1) := by decide +kernel
theorem dX11_rule_44 : decode cX11_rule 44 = .ok (.iload_n 2, 1) := by decide +kernel
theorem dX11_rule_45 : decode cX11_rule 45 = .ok (.bipush 20, 2) := by decide +kernel
theorem dX11_rule_47 : decode cX11_rule 47 = .ok (.if_icmp .ge 72, 3) := by decide +kernel
theorem dX11_rule_50 : decode cX11_rule 50 = .ok (.aload_n 0, 1) := by decide +kernel
theorem dX11_rule_51 : decode cX11_rule 51 = .ok (.getfield 34, 3) := by decide +kernel
theorem dX11_rule_54 : decode cX11_rule 54 = .ok (.bipush 20, 2) := by decide +kernel
theorem dX11_rule_56 : decode cX11_rule 56 = .ok (.iload_n 1, 1) := by decide +kernel
theorem dX11_rule_57 : decode cX11_rule 57 = .ok (.imul, 1) := by decide +kernel
theorem dX11_rule_58 : decode cX11_rule 58 = .ok (.iload_n 2, 1) := by decide +kernel
theorem dX11_rule_59 : decode cX11_rule 59 = .ok (.iadd, 1) := by decide +kernel
theorem dX11_rule_60 : decode cX11_rule 60 = .ok (.aload_n 0, 1) := by decide +kernel
theorem dX11_rule_61 : decode cX11_rule 61 = .ok (.getfield 34, 3) := by decide +kernel
theorem dX11_rule_64 : decode cX11_rule 64 = .ok (.sipush 160, 3) := by decide +kernel
theorem dX11_rule_67 : decode cX11_rule 67 = .ok (.iload_n 2, 1) := by decide +kernel
theorem dX11_rule_68 : decode cX11_rule 68 = .ok (.iadd, 1) := by decide +kernel
theorem dX11_rule_69 : decode cX11_rule 69 = .ok (.iaload, 1) := by decide +kernel
theorem dX11_rule_70 : decode cX11_rule 70 = .ok (.iastore, 1) := by decide +kernel
theorem dX11_rule_71 : decode cX11_rule 71 = .ok (.aload_n 0, 1) := by decide +kernel
theorem dX11_rule_72 : decode cX11_rule 72 = .ok (.getfield 37, 3) := by decide +kernel
theorem dX11_rule_75 : decode cX11_rule 75 = .ok (.bipush 20, 2) := by decide +kernel
theorem dX11_rule_77 : decode cX11_rule 77 = .ok (.iload_n 1, 1) := by decide +kernel
theorem dX11_rule_78 : decode cX11_rule 78 = .ok (.imul, 1) := by decide +kernel
theorem dX11_rule_79 : decode cX11_rule 79 = .ok (.iload_n 2, 1) := by decide +kernel
theorem dX11_rule_80 : decode cX11_rule 80 = .ok (.iadd, 1) := by decide +kernel
theorem dX11_rule_81 : decode cX11_rule 81 = .ok (.aload_n 0, 1) := by decide +kernel
theorem dX11_rule_82 : decode cX11_rule 82 = .ok (.getfield 37, 3) := by decide +kernel
theorem dX11_rule_85 : decode cX11_rule 85 = .ok (.sipush 160, 3) := by decide +kernel
theorem dX11_rule_88 : decode cX11_rule 88 = .ok (.iload_n 2, 1) := by decide +kernel
theorem dX11_rule_89 : decode cX11_rule 89 = .ok (.iadd, 1) := by decide +kernel
theorem dX11_rule_90 : decode cX11_rule 90 = .ok (.iaload, 1) := by decide +kernel
theorem dX11_rule_91 : decode cX11_rule 91 = .ok (.iastore, 1) := by decide +kernel
theorem dX11_rule_92 : decode cX11_rule 92 = .ok (.aload_n 0, 1) := by decide +kernel
theorem dX11_rule_93 : decode cX11_rule 93 = .ok (.getfield 40, 3) := by decide +kernel
theorem dX11_rule_96 : decode cX11_rule 96 = .ok (.bipush 20, 2) := by decide +kernel
theorem dX11_rule_98 : decode cX11_rule 98 = .ok (.iload_n 1, 1) := by decide +kernel
theorem dX11_rule_99 : decode cX11_rule 99 = .ok (.imul, 1) := by decide +kernel
theorem dX11_rule_100 : decode cX11_rule 100 = .ok (.iload_n 2, 1) := by decide +kernel
theorem dX11_rule_101 : decode cX11_rule 101 = .ok (.iadd, 1) := by decide +kernel
theorem dX11_rule_102 : decode cX11_rule 102 = .ok (.aload_n 0, 1) := by decide +kernel
theorem dX11_rule_103 : decode cX11_rule 103 = .ok (.getfield 40, 3) := by decide +kernel
theorem dX11_rule_106 : decode cX11_rule 106 = .ok (.sipush 160, 3) := by decide +kernel
theorem dX11_rule_109 : decode cX11_rule 109 = .ok (.iload_n 2, 1) := by decide +kernel
theorem dX11_rule_110 : decode cX11_rule 110 = .ok (.iadd, 1) := by decide +kernel
theorem dX11_rule_111 : decode cX11_rule 111 = .ok (.iaload, 1) := by decide +kernel
theorem dX11_rule_112 : decode cX11_rule 112 = .ok (.iastore, 1) := by decide +kernel
theorem dX11_rule_113 : decode cX11_rule 113 = .ok (.iinc 2 1, 3) := by decide +kernel
theorem dX11_rule_116 : decode cX11_rule 116 = .ok (.goto (-72), 3) := by decide +kernel
theorem dX11_rule_119 : decode cX11_rule 119 = .ok (.iconst 0, 1) := by decide +kernel
theorem dX11_rule_120 : decode cX11_rule 120 = .ok (.istore_n 2, 1) := by decide +kernel
theorem dX11_rule_121 : decode cX11_rule 121 = .ok (.iload_n 2, 1) := by decide +kernel
theorem dX11_rule_122 : decode cX11_rule 122 = .ok (.aload_n 0, 1) := by decide +kernel
theorem dX11_rule_123 : decode cX11_rule 123 = .ok (.getfield 134, 3) := by decide +kernel
theorem dX11_rule_126 : decode cX11_rule 126 = .ok (.if_icmp .ge 26, 3) := by decide +kernel
theorem dX11_rule_129 : decode cX11_rule 129 = .ok (.aload_n 0, 1) := by decide +kernel
theorem dX11_rule_130 : decode cX11_rule 130 = .ok (.getfield 43, 3) := by decide +kernel
theorem dX11_rule_133 : decode cX11_rule 133 = .ok (.bipush 120, 2) := by decide +kernel
theorem dX11_rule_135 : decode cX11_rule 135 = .ok (.iload_n 1, 1) := by decide +kernel
theorem dX11_rule_136 : decode cX11_rule 136 = .ok (.imul, 1) := by decide +kernel
theorem dX11_rule_137 : decode cX11_rule 137 = .ok (.iload_n 2, 1) := by decide +kernel
theorem dX11_rule_138 : decode cX11_rule 138 = .ok (.iadd, 1) := by decide +kernel
theorem dX11_rule_139 : decode cX11_rule 139 = .ok (.aload_n 0, 1) := by decide +kernel
theorem dX11_rule_140 : decode cX11_rule 140 = .ok (.getfield 53, 3) := by decide +kernel
theorem dX11_rule_143 : decode cX11_rule 143 = .ok (.iload_n 2, 1) := by decide +kernel
theorem dX11_rule_144 : decode cX11_rule 144 = .ok (.iaload, 1) := by decide +kernel
theorem dX11_rule_145 : decode cX11_rule 145 = .ok (.iastore, 1) := by decide +kernel
theorem dX11_rule_146 : decode cX11_rule 146 = .ok (.iinc 2 1, 3) := by decide +kernel
theorem dX11_rule_149 : decode cX11_rule 149 = .ok (.goto (-28), 3) := by decide +kernel
theorem dX11_rule_152 : decode cX11_rule 152 = .ok (.aload_n 0, 1) := by decide +kernel
theorem dX11_rule_153 : decode cX11_rule 153 = .ok (.iconst 0, 1) := by decide +kernel
theorem dX11_rule_154 : decode cX11_rule 154 = .ok (.putfield 134, 3) := by decide +kernel
theorem dX11_rule_157 : decode cX11_rule 157 = .ok (.aload_n 0, 1) := by decide +kernel
theorem dX11_rule_158 : decode cX11_rule 158 = .ok (.getfield 46, 3) := by decide +kernel
theorem dX11_rule_161 : decode cX11_rule 161 = .ok (.ifCond .ne 10, 3) := by decide +kernel
theorem dX11_rule_164 : decode cX11_rule 164 = .ok (.aload_n 0, 1) := by decide +kernel
theorem dX11_rule_165 : decode cX11_rule 165 = .ok (.getfield 170, 3) := by decide +kernel
theorem dX11_rule_168 : decode cX11_rule 168 = .ok (.goto 4, 3) := by decide +kernel
theorem dX11_rule_171 : decode cX11_rule 171 = .ok (.iconst (-1), 1) := by decide +kernel
theorem dX11_rule_172 : decode cX11_rule 172 = .ok (.ireturn, 1) := by decide +kernel
theorem dX11_fault_0 : decode cX11_fault 0 = .ok (.iload_n 1, 1) := by decide +kernel
theorem dX11_fault_1 : decode cX11_fault 1 = .ok (.ifCond .ne 10, 3) := by decide +kernel
theorem dX11_fault_4 : decode cX11_fault 4 = .ok (.aload_n 0, 1) := by decide +kernel
theorem dX11_fault_5 : decode cX11_fault 5 = .ok (.getfield 46, 3) := by decide +kernel
theorem dX11_fault_8 : decode cX11_fault 8 = .ok (.goto 16, 3) := by decide +kernel
theorem dX11_fault_11 : decode cX11_fault 11 = .ok (.iload_n 1, 1) := by decide +kernel
theorem dX11_fault_12 : decode cX11_fault 12 = .ok (.iconst 1, 1) := by decide +kernel
theorem dX11_fault_13 : decode cX11_fault 13 = .ok (.if_icmp .ne 10, 3) := by decide +kernel
theorem dX11_fault_16 : decode cX11_fault 16 = .ok (.aload_n 0, 1) := by decide +kernel
theorem dX11_fault_17 : decode cX11_fault 17 = .ok (.getfield 50, 3) := by decide +kernel
theorem dX11_fault_20 : decode cX11_fault 20 = .ok (.goto 4, 3) := by decide +kernel
theorem dX11_fault_23 : decode cX11_fault 23 = .ok (.iconst (-1), 1) := by decide +kernel
theorem dX11_fault_24 : decode cX11_fault 24 = .ok (.ireturn, 1) := by decide +kernel
theorem dX11_begin_0 : decode cX11_begin 0 = .ok (.aload_n 0, 1) := by decide +kernel
theorem dX11_begin_1 : decode cX11_begin 1 = .ok (.dup, 1) := by decide +kernel
theorem dX11_begin_2 : decode cX11_begin 2 = .ok (.getfield 194, 3) := by decide +kernel
theorem dX11_begin_5 : decode cX11_begin 5 = .ok (.iconst 1, 1) := by decide +kernel
theorem dX11_begin_6 : decode cX11_begin 6 = .ok (.iadd, 1) := by decide +kernel
theorem dX11_begin_7 : decode cX11_begin 7 = .ok (.putfield 194, 3) := by decide +kernel
theorem dX11_begin_10 : decode cX11_begin 10 = .ok (.aload_n 0, 1) := by decide +kernel
theorem dX11_begin_11 : decode cX11_begin 11 = .ok (.aload_n 0, 1) := by decide +kernel
theorem dX11_begin_12 : decode cX11_begin 12 = .ok (.getfield 197, 3) := by decide +kernel
theorem dX11_begin_15 : decode cX11_begin 15 = .ok (.ifCond .ne 13, 3) := by decide +kernel
theorem dX11_begin_18 : decode cX11_begin 18 = .ok (.aload_n 0, 1) := by decide +kernel
theorem dX11_begin_19 : decode cX11_begin 19 = .ok (.getfield 194, 3) := by decide +kernel
theorem dX11_begin_22 : decode cX11_begin 22 = .ok (.sipush 2000, 3) := by decide +kernel
theorem dX11_begin_25 : decode cX11_begin 25 = .ok (.if_icmp .le 7, 3) := by decide +kernel
theorem dX11_begin_28 : decode cX11_begin 28 = .ok (.iconst 1, 1) := by decide +kernel
theorem dX11_begin_29 : decode cX11_begin 29 = .ok (.goto 4, 3) := by decide +kernel
theorem dX11_begin_32 : decode cX11_begin 32 = .ok (.iconst 0, 1) := by decide +kernel
theorem dX11_begin_33 : decode cX11_begin 33 = .ok (.putfield 197, 3) := by decide +kernel
theorem dX11_begin_36 : decode cX11_begin 36 = .ok (.aload_n 0, 1) := by decide +kernel
theorem dX11_begin_37 : decode cX11_begin 37 = .ok (.getfield 106, 3) := by decide +kernel
theorem dX11_begin_40 : decode cX11_begin 40 = .ok (.aload_n 0, 1) := by decide +kernel
theorem dX11_begin_41 : decode cX11_begin 41 = .ok (.getfield 200, 3) := by decide +kernel
theorem dX11_begin_44 : decode cX11_begin 44 = .ok (.iload_n 1, 1) := by decide +kernel
theorem dX11_begin_45 : decode cX11_begin 45 = .ok (.iastore, 1) := by decide +kernel
theorem dX11_begin_46 : decode cX11_begin 46 = .ok (.aload_n 0, 1) := by decide +kernel
theorem dX11_begin_47 : decode cX11_begin 47 = .ok (.getfield 109, 3) := by decide +kernel
theorem dX11_begin_50 : decode cX11_begin 50 = .ok (.aload_n 0, 1) := by decide +kernel
theorem dX11_begin_51 : decode cX11_begin 51 = .ok (.getfield 200, 3) := by decide +kernel
theorem dX11_begin_54 : decode cX11_begin 54 = .ok (.iconst 0, 1) := by decide +kernel
theorem dX11_begin_55 : decode cX11_begin 55 = .ok (.iastore, 1) := by decide +kernel
theorem dX11_begin_56 : decode cX11_begin 56 = .ok (.aload_n 0, 1) := by decide +kernel
theorem dX11_begin_57 : decode cX11_begin 57 = .ok (.getfield 112, 3) := by decide +kernel
theorem dX11_begin_60 : decode cX11_begin 60 = .ok (.aload_n 0, 1) := by decide +kernel
theorem dX11_begin_61 : decode cX11_begin 61 = .ok (.getfield 200, 3) := by decide +kernel
theorem dX11_begin_64 : decode cX11_begin 64 = .ok (.iconst (-1), 1) := by decide +kernel
theorem dX11_begin_65 : decode cX11_begin 65 = .ok (.iastore, 1) := by decide +kernel
theorem dX11_begin_66 : decode cX11_begin 66 = .ok (.aload_n 0, 1) := by decide +kernel
theorem dX11_begin_67 : decode cX11_begin 67 = .ok (.getfield 115, 3) := by decide +kernel
theorem dX11_begin_70 : decode cX11_begin 70 = .ok (.aload_n 0, 1) := by decide +kernel
theorem dX11_begin_71 : decode cX11_begin 71 = .ok (.getfield 200, 3) := by decide +kernel
theorem dX11_begin_74 : decode cX11_begin 74 = .ok (.iconst 0, 1) := by decide +kernel
theorem dX11_begin_75 : decode cX11_begin 75 = .ok (.bastore, 1) := by decide +kernel
theorem dX11_begin_76 : decode cX11_begin 76 = .ok (.aload_n 0, 1) := by decide +kernel
theorem dX11_begin_77 : decode cX11_begin 77 = .ok (.dup, 1) := by decide +kernel
theorem dX11_begin_78 : decode cX11_begin 78 = .ok (.getfield 200, 3) := by decide +kernel
theorem dX11_begin_81 : decode cX11_begin 81 = .ok (.iconst 1, 1) := by decide +kernel
theorem dX11_begin_82 : decode cX11_begin 82 = .ok (.iadd, 1) := by decide +kernel
theorem dX11_begin_83 : decode cX11_begin 83 = .ok (.putfield 200, 3) := by decide +kernel
theorem dX11_begin_86 : decode cX11_begin 86 = .ok (.return_, 1) := by decide +kernel
theorem dX11_write_0 : decode cX11_write 0 = .ok (.aload_n 0, 1) := by decide +kernel
theorem dX11_write_1 : decode cX11_write 1 = .ok (.getfield 203, 3) := by decide +kernel
theorem dX11_write_4 : decode cX11_write 4 = .ok (.sipush 3000, 3) := by decide +kernel
theorem dX11_write_7 : decode cX11_write 7 = .ok (.if_icmp .ne 9, 3) := by decide +kernel
theorem dX11_write_10 : decode cX11_write 10 = .ok (.aload_n 0, 1) := by decide +kernel
theorem dX11_write_11 : decode cX11_write 11 = .ok (.iconst 1, 1) := by decide +kernel
theorem dX11_write_12 : decode cX11_write 12 = .ok (.putfield 197, 3) := by decide +kernel
theorem dX11_write_15 : decode cX11_write 15 = .ok (.return_, 1) := by decide +kernel
theorem dX11_write_16 : decode cX11_write 16 = .ok (.aload_n 0, 1) := by decide +kernel
theorem dX11_write_17 : decode cX11_write 17 = .ok (.getfield 86, 3) := by decide +kernel
theorem dX11_write_20 : decode cX11_write 20 = .ok (.sipush 3000, 3) := by decide +kernel
theorem dX11_write_23 : decode cX11_write 23 = .ok (.aload_n 0, 1) := by decide +kernel
theorem dX11_write_24 : decode cX11_write 24 = .ok (.getfield 203, 3) := by decide +kernel
theorem dX11_write_27 : decode cX11_write 27 = .ok (.iadd, 1) := by decide +kernel
theorem dX11_write_28 : decode cX11_write 28 = .ok (.iload_n 1, 1) := by decide +kernel
theorem dX11_write_29 : decode cX11_write 29 = .ok (.iastore, 1) := by decide +kernel
theorem dX11_write_30 : decode cX11_write 30 = .ok (.aload_n 0, 1) := by decide +kernel
theorem dX11_write_31 : decode cX11_write 31 = .ok (.dup, 1) := by decide +kernel
theorem dX11_write_32 : decode cX11_write 32 = .ok (.getfield 203, 3) := by decide +kernel
theorem dX11_write_35 : decode cX11_write 35 = .ok (.iconst 1, 1) := by decide +kernel
theorem dX11_write_36 : decode cX11_write 36 = .ok (.iadd, 1) := by decide +kernel
theorem dX11_write_37 : decode cX11_write 37 = .ok (.putfield 203, 3) := by decide +kernel
theorem dX11_write_40 : decode cX11_write 40 = .ok (.return_, 1) := by decide +kernel
theorem dX11_writeNumber_0 : decode cX11_writeNumber 0 = .ok (.iconst 1, 1) := by decide +kernel
theorem dX11_writeNumber_1 : decode cX11_writeNumber 1 = .ok (.istore_n 2, 1) := by decide +kernel
theorem dX11_writeNumber_2 : decode cX11_writeNumber 2 = .ok (.iload_n 1, 1) := by decide +kernel
theorem dX11_writeNumber_3 : decode cX11_writeNumber 3 = .ok (.iload_n 2, 1) := by decide +kernel
theorem dX11_writeNumber_4 : decode cX11_writeNumber 4 = .ok (.idiv, 1) := by decide +kernel
theorem dX11_writeNumber_5 : decode cX11_writeNumber 5 = .ok (.bipush 9, 2) := by decide +kernel
theorem dX11_writeNumber_7 : decode cX11_writeNumber 7 = .ok (.if_icmp .le 11, 3) := by decide +kernel
theorem dX11_writeNumber_10 : decode cX11_writeNumber 10 = .ok (.iload_n 2, 1) := by decide +kernel
theorem dX11_writeNumber_11 : decode cX11_writeNumber 11 = .ok (.bipush 10, 2) := by decide +kernel
theorem dX11_writeNumber_13 : decode cX11_writeNumber 13 = .ok (.imul, 1) := by decide +kernel
theorem dX11_writeNumber_14 : decode cX11_writeNumber 14 = .ok (.istore_n 2, 1) := by decide +kernel
theorem dX11_writeNumber_15 : decode cX11_writeNumber 15 = .ok (.goto (-13), 3) := by decide +kernel
theorem dX11_writeNumber_18 : decode cX11_writeNumber 18 = .ok (.iload_n 2, 1) := by decide +kernel
theorem dX11_writeNumber_19 : decode cX11_writeNumber 19 = .ok (.istore_n 3, 1) := by decide +kernel
theorem dX11_writeNumber_20 : decode cX11_writeNumber 20 = .ok (.iload_n 3, 1) := by decide +kernel
theorem dX11_writeNumber_21 : decode cX11_writeNumber 21 = .ok (.ifCond .le 24, 3) := by decide +kernel
theorem dX11_writeNumber_24 : decode cX11_writeNumber 24 = .ok (.aload_n 0, 1) := by decide +kernel
theorem dX11_writeNumber_25 : decode cX11_writeNumber 25 = .ok (.bipush 48, 2) := by decide +kernel
theorem dX11_writeNumber_27 : decode cX11_writeNumber 27 = .ok (.iload_n 1, 1) := by decide +kernel
theorem dX11_writeNumber_28 : decode cX11_writeNumber 28 = .ok (.iload_n 3, 1) := by decide +kernel
theorem dX11_writeNumber_29 : decode cX11_writeNumber 29 = .ok (.idiv, 1) := by decide +kernel
theorem dX11_writeNumber_30 : decode cX11_writeNumber 30 = .ok (.bipush 10, 2) := by decide +kernel
theorem dX11_writeNumber_32 : decode cX11_writeNumber 32 = .ok (.irem, 1) := by decide +kernel
theorem dX11_writeNumber_33 : decode cX11_writeNumber 33 = .ok (.iadd, 1) := by decide +kernel
theorem dX11_writeNumber_34 : decode cX11_writeNumber 34 = .ok (.invokevirtual 206, 3) := by decide +kernel
theorem dX11_writeNumber_37 : decode cX11_writeNumber 37 = .ok (.iload_n 3, 1) := by decide +kernel
theorem dX11_writeNumber_38 : decode cX11_writeNumber 38 = .ok (.bipush 10, 2) := by decide +kernel
theorem dX11_writeNumber_40 : decode cX11_writeNumber 40 = .ok (.idiv, 1) := by decide +kernel
theorem dX11_writeNumber_41 : decode cX11_writeNumber 41 = .ok (.istore_n 3, 1) := by decide +kernel
theorem dX11_writeNumber_42 : decode cX11_writeNumber 42 = .ok (.goto (-22), 3) := by decide +kernel
theorem dX11_writeNumber_45 : decode cX11_writeNumber 45 = .ok (.return_, 1) := by decide +kernel
theorem dX11_makePiece_0 : decode cX11_makePiece 0 = .ok (.aload_n 0, 1) := by decide +kernel
theorem dX11_makePiece_1 : decode cX11_makePiece 1 = .ok (.getfield 56, 3) := by decide +kernel
theorem dX11_makePiece_4 : decode cX11_makePiece 4 = .ok (.iconst 1, 1) := by decide +kernel
theorem dX11_makePiece_5 : decode cX11_makePiece 5 = .ok (.iaload, 1) := by decide +kernel
theorem dX11_makePiece_6 : decode cX11_makePiece 6 = .ok (.sipush 250, 3) := by decide +kernel
theorem dX11_makePiece_9 : decode cX11_makePiece 9 = .ok (.if_icmp .ne 8, 3) := by decide +kernel
theorem dX11_makePiece_12 : decode cX11_makePiece 12 = .ok (.aload_n 0, 1) := by decide +kernel
theorem dX11_makePiece_13 : decode cX11_makePiece 13 = .ok (.iconst 1, 1) := by decide +kernel
theorem dX11_makePiece_14 : decode cX11_makePiece 14 = .ok (.putfield 197, 3) := by decide +kernel
theorem dX11_makePiece_17 : decode cX11_makePiece 17 = .ok (.aload_n 0, 1) := by decide +kernel
theorem dX11_makePiece_18 : decode cX11_makePiece 18 = .ok (.getfield 197, 3) := by decide +kernel
theorem dX11_makePiece_21 : decode cX11_makePiece 21 = .ok (.ifCond .eq 4, 3) := by decide +kernel
theorem dX11_makePiece_24 : decode cX11_makePiece 24 = .ok (.return_, 1) := by decide +kernel
theorem dX11_makePiece_25 : decode cX11_makePiece 25 = .ok (.bipush 20, 2) := by decide +kernel
theorem dX11_makePiece_27 : decode cX11_makePiece 27 = .ok (.aload_n 0, 1) := by decide +kernel
theorem dX11_makePiece_28 : decode cX11_makePiece 28 = .ok (.getfield 13, 3) := by decide +kernel
theorem dX11_makePiece_31 : decode cX11_makePiece 31 = .ok (.iload_n 1, 1) := by decide +kernel
theorem dX11_makePiece_32 : decode cX11_makePiece 32 = .ok (.iaload, 1) := by decide +kernel
theorem dX11_makePiece_33 : decode cX11_makePiece 33 = .ok (.imul, 1) := by decide +kernel
theorem dX11_makePiece_34 : decode cX11_makePiece 34 = .ok (.iload_n 2, 1) := by decide +kernel
theorem dX11_makePiece_35 : decode cX11_makePiece 35 = .ok (.iadd, 1) := by decide +kernel
theorem dX11_makePiece_36 : decode cX11_makePiece 36 = .ok (.istore_n 3, 1) := by decide +kernel
theorem dX11_makePiece_37 : decode cX11_makePiece 37 = .ok (.sipush 250, 3) := by decide +kernel
theorem dX11_makePiece_40 : decode cX11_makePiece 40 = .ok (.aload_n 0, 1) := by decide +kernel
theorem dX11_makePiece_41 : decode cX11_makePiece 41 = .ok (.getfield 56, 3) := by decide +kernel
theorem dX11_makePiece_44 : decode cX11_makePiece 44 = .ok (.iconst 1, 1) := by decide +kernel
theorem dX11_makePiece_45 : decode cX11_makePiece 45 = .ok (.iaload, 1) := by decide +kernel
theorem dX11_makePiece_46 : decode cX11_makePiece 46 = .ok (.iadd, 1) := by decide +kernel
theorem dX11_makePiece_47 : decode cX11_makePiece 47 = .ok (.istore 4, 2) := by decide +kernel
theorem dX11_makePiece_49 : decode cX11_makePiece 49 = .ok (.aload_n 0, 1) := by decide +kernel
theorem dX11_makePiece_50 : decode cX11_makePiece 50 = .ok (.getfield 59, 3) := by decide +kernel
theorem dX11_makePiece_53 : decode cX11_makePiece 53 = .ok (.iload 4, 2) := by decide +kernel
theorem dX11_makePiece_55 : decode cX11_makePiece 55 = .ok (.iload_n 2, 1) := by decide +kernel
theorem dX11_makePiece_56 : decode cX11_makePiece 56 = .ok (.iastore, 1) := by decide +kernel
theorem dX11_makePiece_57 : decode cX11_makePiece 57 = .ok (.aload_n 0, 1) := by decide +kernel
theorem dX11_makePiece_58 : decode cX11_makePiece 58 = .ok (.getfield 62, 3) := by decide +kernel
theorem dX11_makePiece_61 : decode cX11_makePiece 61 = .ok (.iload 4, 2) := by decide +kernel
theorem dX11_makePiece_63 : decode cX11_makePiece 63 = .ok (.aload_n 0, 1) := by decide +kernel
theorem dX11_makePiece_64 : decode cX11_makePiece 64 = .ok (.getfield 34, 3) := by decide +kernel
theorem dX11_makePiece_67 : decode cX11_makePiece 67 = .ok (.iload_n 3, 1) := by decide +kernel
theorem dX11_makePiece_68 : decode cX11_makePiece 68 = .ok (.iaload, 1) := by decide +kernel
theorem dX11_makePiece_69 : decode cX11_makePiece 69 = .ok (.iastore, 1) := by decide +kernel
theorem dX11_makePiece_70 : decode cX11_makePiece 70 = .ok (.aload_n 0, 1) := by decide +kernel
theorem dX11_makePiece_71 : decode cX11_makePiece 71 = .ok (.getfield 65, 3) := by decide +kernel
theorem dX11_makePiece_74 : decode cX11_makePiece 74 = .ok (.iload 4, 2) := by decide +kernel
theorem dX11_makePiece_76 : decode cX11_makePiece 76 = .ok (.aload_n 0, 1) := by decide +kernel
theorem dX11_makePiece_77 : decode cX11_makePiece 77 = .ok (.getfield 13, 3) := by decide +kernel
theorem dX11_makePiece_80 : decode cX11_makePiece 80 = .ok (.iload_n 1, 1) := by decide +kernel
theorem dX11_makePiece_81 : decode cX11_makePiece 81 = .ok (.iaload, 1) := by decide +kernel
theorem dX11_makePiece_82 : decode cX11_makePiece 82 = .ok (.iastore, 1) := by decide +kernel
theorem dX11_makePiece_83 : decode cX11_makePiece 83 = .ok (.aload_n 0, 1) := by decide +kernel
theorem dX11_makePiece_84 : decode cX11_makePiece 84 = .ok (.getfield 68, 3) := by decide +kernel
theorem dX11_makePiece_87 : decode cX11_makePiece 87 = .ok (.iload 4, 2) := by decide +kernel
theorem dX11_makePiece_89 : decode cX11_makePiece 89 = .ok (.aload_n 0, 1) := by decide +kernel
theorem dX11_makePiece_90 : decode cX11_makePiece 90 = .ok (.getfield 37, 3) := by decide +kernel
theorem dX11_makePiece_93 : decode cX11_makePiece 93 = .ok (.iload_n 3, 1) := by decide +kernel
theorem dX11_makePiece_94 : decode cX11_makePiece 94 = .ok (.iaload, 1) := by decide +kernel
theorem dX11_makePiece_95 : decode cX11_makePiece 95 = .ok (.iastore, 1) := by decide +kernel
theorem dX11_makePiece_96 : decode cX11_makePiece 96 = .ok (.aload_n 0, 1) := by decide +kernel
theorem dX11_makePiece_97 : decode cX11_makePiece 97 = .ok (.getfield 71, 3) := by decide +kernel
theorem dX11_makePiece_100 : decode cX11_makePiece 100 = .ok (.iload 4, 2) := by decide +kernel
theorem dX11_makePiece_102 : decode cX11_makePiece 102 = .ok (.aload_n 0, 1) := by decide +kernel
theorem dX11_makePiece_103 : decode cX11_makePiece 103 = .ok (.getfield 200, 3) := by decide +kernel
theorem dX11_makePiece_106 : decode cX11_makePiece 106 = .ok (.iastore, 1) := by decide +kernel
theorem dX11_makePiece_107 : decode cX11_makePiece 107 = .ok (.aload_n 0, 1) := by decide +kernel
theorem dX11_makePiece_108 : decode cX11_makePiece 108 = .ok (.getfield 77, 3) := by decide +kernel
theorem dX11_makePiece_111 : decode cX11_makePiece 111 = .ok (.iload 4, 2) := by decide +kernel
theorem dX11_makePiece_113 : decode cX11_makePiece 113 = .ok (.iload_n 1, 1) := by decide +kernel
theorem dX11_makePiece_114 : decode cX11_makePiece 114 = .ok (.iastore, 1) := by decide +kernel
theorem dX11_makePiece_115 : decode cX11_makePiece 115 = .ok (.iconst 0, 1) := by decide +kernel
theorem dX11_makePiece_116 : decode cX11_makePiece 116 = .ok (.istore 5, 2) := by decide +kernel
theorem dX11_makePiece_118 : decode cX11_makePiece 118 = .ok (.iload 5, 2) := by decide +kernel
theorem dX11_makePiece_120 : decode cX11_makePiece 120 = .ok (.aload_n 0, 1) := by decide +kernel
theorem dX11_makePiece_121 : decode cX11_makePiece 121 = .ok (.getfield 200, 3) := by decide +kernel
theorem dX11_makePiece_124 : decode cX11_makePiece 124 = .ok (.if_icmp .ge 62, 3) := by decide +kernel
theorem dX11_makePiece_127 : decode cX11_makePiece 127 = .ok (.aload_n 0, 1) := by decide +kernel
theorem dX11_makePiece_128 : decode cX11_makePiece 128 = .ok (.getfield 74, 3) := by decide +kernel
theorem dX11_makePiece_131 : decode cX11_makePiece 131 = .ok (.bipush 12, 2) := by decide +kernel
theorem dX11_makePiece_133 : decode cX11_makePiece 133 = .ok (.iload 4, 2) := by decide +kernel
theorem dX11_makePiece_135 : decode cX11_makePiece 135 = .ok (.imul, 1) := by decide +kernel
theorem dX11_makePiece_136 : decode cX11_makePiece 136 = .ok (.iconst 2, 1) := by decide +kernel
theorem dX11_makePiece_137 : decode cX11_makePiece 137 = .ok (.iload 5, 2) := by decide +kernel
theorem dX11_makePiece_139 : decode cX11_makePiece 139 = .ok (.imul, 1) := by decide +kernel
theorem dX11_makePiece_140 : decode cX11_makePiece 140 = .ok (.iadd, 1) := by decide +kernel
theorem dX11_makePiece_141 : decode cX11_makePiece 141 = .ok (.aload_n 0, 1) := by decide +kernel
theorem dX11_makePiece_142 : decode cX11_makePiece 142 = .ok (.getfield 7, 3) := by decide +kernel
theorem dX11_makePiece_145 : decode cX11_makePiece 145 = .ok (.aload_n 0, 1) := by decide +kernel
theorem dX11_makePiece_146 : decode cX11_makePiece 146 = .ok (.getfield 106, 3) := by decide +kernel
theorem dX11_makePiece_149 : decode cX11_makePiece 149 = .ok (.iload 5, 2) := by decide +kernel
theorem dX11_makePiece_151 : decode cX11_makePiece 151 = .ok (.iaload, 1) := by decide +kernel
theorem dX11_makePiece_152 : decode cX11_makePiece 152 = .ok (.iaload, 1) := by decide +kernel
theorem dX11_makePiece_153 : decode cX11_makePiece 153 = .ok (.iastore, 1) := by decide +kernel
theorem dX11_makePiece_154 : decode cX11_makePiece 154 = .ok (.aload_n 0, 1) := by decide +kernel
theorem dX11_makePiece_155 : decode cX11_makePiece 155 = .ok (.getfield 74, 3) := by decide +kernel
theorem dX11_makePiece_158 : decode cX11_makePiece 158 = .ok (.bipush 12, 2) := by decide +kernel
theorem dX11_makePiece_160 : decode cX11_makePiece 160 = .ok (.iload 4, 2) := by decide +kernel
theorem dX11_makePiece_162 : decode cX11_makePiece 162 = .ok (.imul, 1) := by decide +kernel
theorem dX11_makePiece_163 : decode cX11_makePiece 163 = .ok (.iconst 2, 1) := by decide +kernel
theorem dX11_makePiece_164 : decode cX11_makePiece 164 = .ok (.iload 5, 2) := by decide +kernel
theorem dX11_makePiece_166 : decode cX11_makePiece 166 = .ok (.imul, 1) := by decide +kernel
theorem dX11_makePiece_167 : decode cX11_makePiece 167 = .ok (.iadd, 1) := by decide +kernel
theorem dX11_makePiece_168 : decode cX11_makePiece 168 = .ok (.iconst 1, 1) := by decide +kernel
theorem dX11_makePiece_169 : decode cX11_makePiece 169 = .ok (.iadd, 1) := by decide +kernel
theorem dX11_makePiece_170 : decode cX11_makePiece 170 = .ok (.aload_n 0, 1) := by decide +kernel
theorem dX11_makePiece_171 : decode cX11_makePiece 171 = .ok (.getfield 109, 3) := by decide +kernel
theorem dX11_makePiece_174 : decode cX11_makePiece 174 = .ok (.iload 5, 2) := by decide +kernel
theorem dX11_makePiece_176 : decode cX11_makePiece 176 = .ok (.iaload, 1) := by decide +kernel
theorem dX11_makePiece_177 : decode cX11_makePiece 177 = .ok (.iconst 1, 1) := by decide +kernel
theorem dX11_makePiece_178 : decode cX11_makePiece 178 = .ok (.isub, 1) := by decide +kernel
theorem dX11_makePiece_179 : decode cX11_makePiece 179 = .ok (.iastore, 1) := by decide +kernel
theorem dX11_makePiece_180 : decode cX11_makePiece 180 = .ok (.iinc 5 1, 3) := by decide +kernel
theorem dX11_makePiece_183 : decode cX11_makePiece 183 = .ok (.goto (-65), 3) := by decide +kernel
theorem dX11_makePiece_186 : decode cX11_makePiece 186 = .ok (.aload_n 0, 1) := by decide +kernel
theorem dX11_makePiece_187 : decode cX11_makePiece 187 = .ok (.getfield 80, 3) := by decide +kernel
theorem dX11_makePiece_190 : decode cX11_makePiece 190 = .ok (.iload 4, 2) := by decide +kernel
theorem dX11_makePiece_192 : decode cX11_makePiece 192 = .ok (.aload_n 0, 1) := by decide +kernel
theorem dX11_makePiece_193 : decode cX11_makePiece 193 = .ok (.getfield 203, 3) := by decide +kernel
theorem dX11_makePiece_196 : decode cX11_makePiece 196 = .ok (.iastore, 1) := by decide +kernel
theorem dX11_makePiece_197 : decode cX11_makePiece 197 = .ok (.aload_n 0, 1) := by decide +kernel
theorem dX11_makePiece_198 : decode cX11_makePiece 198 = .ok (.getfield 89, 3) := by decide +kernel
theorem dX11_makePiece_201 : decode cX11_makePiece 201 = .ok (.iload 4, 2) := by decide +kernel
theorem dX11_makePiece_203 : decode cX11_makePiece 203 = .ok (.iconst (-1), 1) := by decide +kernel
theorem dX11_makePiece_204 : decode cX11_makePiece 204 = .ok (.iastore, 1) := by decide +kernel
theorem dX11_makePiece_205 : decode cX11_makePiece 205 = .ok (.aload_n 0, 1) := by decide +kernel
end
section
theorem dX11_makePiece_206 : decode cX11_makePiece 206 = .ok (.getfield 102, 3) := by decide +kernel
theorem dX11_makePiece_209 : decode cX11_makePiece 209 = .ok (.iload 4, 2) := by decide +kernel
theorem dX11_makePiece_211 : decode cX11_makePiece 211 = .ok (.iconst 0, 1) := by decide +kernel
theorem dX11_makePiece_212 : decode cX11_makePiece 212 = .ok (.bastore, 1) := by decide +kernel
theorem dX11_makePiece_213 : decode cX11_makePiece 213 = .ok (.aload_n 0, 1) := by decide +kernel
theorem dX11_makePiece_214 : decode cX11_makePiece 214 = .ok (.getfield 56, 3) := by decide +kernel
theorem dX11_makePiece_217 : decode cX11_makePiece 217 = .ok (.iconst 1, 1) := by decide +kernel
theorem dX11_makePiece_218 : decode cX11_makePiece 218 = .ok (.dup2, 1) := by decide +kernel
theorem dX11_makePiece_219 : decode cX11_makePiece 219 = .ok (.iaload, 1) := by decide +kernel
theorem dX11_makePiece_220 : decode cX11_makePiece 220 = .ok (.iconst 1, 1) := by decide +kernel
theorem dX11_makePiece_221 : decode cX11_makePiece 221 = .ok (.iadd, 1) := by decide +kernel
theorem dX11_makePiece_222 : decode cX11_makePiece 222 = .ok (.iastore, 1) := by decide +kernel
theorem dX11_makePiece_223 : decode cX11_makePiece 223 = .ok (.aload_n 0, 1) := by decide +kernel
theorem dX11_makePiece_224 : decode cX11_makePiece 224 = .ok (.getfield 34, 3) := by decide +kernel
theorem dX11_makePiece_227 : decode cX11_makePiece 227 = .ok (.iload_n 3, 1) := by decide +kernel
theorem dX11_makePiece_228 : decode cX11_makePiece 228 = .ok (.iaload, 1) := by decide +kernel
theorem dX11_makePiece_229 : decode cX11_makePiece 229 = .ok (.ifCond .ne 51, 3) := by decide +kernel
theorem dX11_makePiece_232 : decode cX11_makePiece 232 = .ok (.iconst 0, 1) := by decide +kernel
theorem dX11_makePiece_233 : decode cX11_makePiece 233 = .ok (.istore 5, 2) := by decide +kernel
theorem dX11_makePiece_235 : decode cX11_makePiece 235 = .ok (.iload 5, 2) := by decide +kernel
theorem dX11_makePiece_237 : decode cX11_makePiece 237 = .ok (.aload_n 0, 1) := by decide +kernel
theorem dX11_makePiece_238 : decode cX11_makePiece 238 = .ok (.getfield 40, 3) := by decide +kernel
theorem dX11_makePiece_241 : decode cX11_makePiece 241 = .ok (.iload_n 3, 1) := by decide +kernel
theorem dX11_makePiece_242 : decode cX11_makePiece 242 = .ok (.iaload, 1) := by decide +kernel
theorem dX11_makePiece_243 : decode cX11_makePiece 243 = .ok (.if_icmp .ge 37, 3) := by decide +kernel
theorem dX11_makePiece_246 : decode cX11_makePiece 246 = .ok (.aload_n 0, 1) := by decide +kernel
theorem dX11_makePiece_247 : decode cX11_makePiece 247 = .ok (.aload_n 0, 1) := by decide +kernel
theorem dX11_makePiece_248 : decode cX11_makePiece 248 = .ok (.getfield 43, 3) := by decide +kernel
theorem dX11_makePiece_251 : decode cX11_makePiece 251 = .ok (.bipush 120, 2) := by decide +kernel
theorem dX11_makePiece_253 : decode cX11_makePiece 253 = .ok (.aload_n 0, 1) := by decide +kernel
theorem dX11_makePiece_254 : decode cX11_makePiece 254 = .ok (.getfield 13, 3) := by decide +kernel
theorem dX11_makePiece_257 : decode cX11_makePiece 257 = .ok (.iload_n 1, 1) := by decide +kernel
theorem dX11_makePiece_258 : decode cX11_makePiece 258 = .ok (.iaload, 1) := by decide +kernel
theorem dX11_makePiece_259 : decode cX11_makePiece 259 = .ok (.imul, 1) := by decide +kernel
theorem dX11_makePiece_260 : decode cX11_makePiece 260 = .ok (.aload_n 0, 1) := by decide +kernel
theorem dX11_makePiece_261 : decode cX11_makePiece 261 = .ok (.getfield 37, 3) := by decide +kernel
theorem dX11_makePiece_264 : decode cX11_makePiece 264 = .ok (.iload_n 3, 1) := by decide +kernel
theorem dX11_makePiece_265 : decode cX11_makePiece 265 = .ok (.iaload, 1) := by decide +kernel
theorem dX11_makePiece_266 : decode cX11_makePiece 266 = .ok (.iadd, 1) := by decide +kernel
theorem dX11_makePiece_267 : decode cX11_makePiece 267 = .ok (.iload 5, 2) := by decide +kernel
theorem dX11_makePiece_269 : decode cX11_makePiece 269 = .ok (.iadd, 1) := by decide +kernel
theorem dX11_makePiece_270 : decode cX11_makePiece 270 = .ok (.iaload, 1) := by decide +kernel
theorem dX11_makePiece_271 : decode cX11_makePiece 271 = .ok (.invokevirtual 206, 3) := by decide +kernel
theorem dX11_makePiece_274 : decode cX11_makePiece 274 = .ok (.iinc 5 1, 3) := by decide +kernel
theorem dX11_makePiece_277 : decode cX11_makePiece 277 = .ok (.goto (-42), 3) := by decide +kernel
theorem dX11_makePiece_280 : decode cX11_makePiece 280 = .ok (.aload_n 0, 1) := by decide +kernel
theorem dX11_makePiece_281 : decode cX11_makePiece 281 = .ok (.getfield 34, 3) := by decide +kernel
theorem dX11_makePiece_284 : decode cX11_makePiece 284 = .ok (.iload_n 3, 1) := by decide +kernel
theorem dX11_makePiece_285 : decode cX11_makePiece 285 = .ok (.iaload, 1) := by decide +kernel
theorem dX11_makePiece_286 : decode cX11_makePiece 286 = .ok (.iconst 1, 1) := by decide +kernel
theorem dX11_makePiece_287 : decode cX11_makePiece 287 = .ok (.if_icmp .ne 39, 3) := by decide +kernel
theorem dX11_makePiece_290 : decode cX11_makePiece 290 = .ok (.iconst 0, 1) := by decide +kernel
theorem dX11_makePiece_291 : decode cX11_makePiece 291 = .ok (.istore 5, 2) := by decide +kernel
theorem dX11_makePiece_293 : decode cX11_makePiece 293 = .ok (.iload 5, 2) := by decide +kernel
theorem dX11_makePiece_295 : decode cX11_makePiece 295 = .ok (.aload_n 0, 1) := by decide +kernel
theorem dX11_makePiece_296 : decode cX11_makePiece 296 = .ok (.getfield 28, 3) := by decide +kernel
theorem dX11_makePiece_299 : decode cX11_makePiece 299 = .ok (.iload_n 1, 1) := by decide +kernel
theorem dX11_makePiece_300 : decode cX11_makePiece 300 = .ok (.iaload, 1) := by decide +kernel
theorem dX11_makePiece_301 : decode cX11_makePiece 301 = .ok (.if_icmp .ge 25, 3) := by decide +kernel
theorem dX11_makePiece_304 : decode cX11_makePiece 304 = .ok (.aload_n 0, 1) := by decide +kernel
theorem dX11_makePiece_305 : decode cX11_makePiece 305 = .ok (.aload_n 0, 1) := by decide +kernel
theorem dX11_makePiece_306 : decode cX11_makePiece 306 = .ok (.getfield 25, 3) := by decide +kernel
theorem dX11_makePiece_309 : decode cX11_makePiece 309 = .ok (.bipush 6, 2) := by decide +kernel
theorem dX11_makePiece_311 : decode cX11_makePiece 311 = .ok (.iload_n 1, 1) := by decide +kernel
theorem dX11_makePiece_312 : decode cX11_makePiece 312 = .ok (.imul, 1) := by decide +kernel
theorem dX11_makePiece_313 : decode cX11_makePiece 313 = .ok (.iload 5, 2) := by decide +kernel
theorem dX11_makePiece_315 : decode cX11_makePiece 315 = .ok (.iadd, 1) := by decide +kernel
theorem dX11_makePiece_316 : decode cX11_makePiece 316 = .ok (.iaload, 1) := by decide +kernel
theorem dX11_makePiece_317 : decode cX11_makePiece 317 = .ok (.invokevirtual 206, 3) := by decide +kernel
theorem dX11_makePiece_320 : decode cX11_makePiece 320 = .ok (.iinc 5 1, 3) := by decide +kernel
theorem dX11_makePiece_323 : decode cX11_makePiece 323 = .ok (.goto (-30), 3) := by decide +kernel
theorem dX11_makePiece_326 : decode cX11_makePiece 326 = .ok (.aload_n 0, 1) := by decide +kernel
theorem dX11_makePiece_327 : decode cX11_makePiece 327 = .ok (.getfield 34, 3) := by decide +kernel
theorem dX11_makePiece_330 : decode cX11_makePiece 330 = .ok (.iload_n 3, 1) := by decide +kernel
theorem dX11_makePiece_331 : decode cX11_makePiece 331 = .ok (.iaload, 1) := by decide +kernel
theorem dX11_makePiece_332 : decode cX11_makePiece 332 = .ok (.iconst 2, 1) := by decide +kernel
theorem dX11_makePiece_333 : decode cX11_makePiece 333 = .ok (.if_icmp .ne 22, 3) := by decide +kernel
theorem dX11_makePiece_336 : decode cX11_makePiece 336 = .ok (.aload_n 0, 1) := by decide +kernel
theorem dX11_makePiece_337 : decode cX11_makePiece 337 = .ok (.aload_n 0, 1) := by decide +kernel
theorem dX11_makePiece_338 : decode cX11_makePiece 338 = .ok (.getfield 22, 3) := by decide +kernel
theorem dX11_makePiece_341 : decode cX11_makePiece 341 = .ok (.iconst 4, 1) := by decide +kernel
theorem dX11_makePiece_342 : decode cX11_makePiece 342 = .ok (.iload_n 1, 1) := by decide +kernel
theorem dX11_makePiece_343 : decode cX11_makePiece 343 = .ok (.imul, 1) := by decide +kernel
theorem dX11_makePiece_344 : decode cX11_makePiece 344 = .ok (.aload_n 0, 1) := by decide +kernel
theorem dX11_makePiece_345 : decode cX11_makePiece 345 = .ok (.getfield 37, 3) := by decide +kernel
theorem dX11_makePiece_348 : decode cX11_makePiece 348 = .ok (.iload_n 3, 1) := by decide +kernel
theorem dX11_makePiece_349 : decode cX11_makePiece 349 = .ok (.iaload, 1) := by decide +kernel
theorem dX11_makePiece_350 : decode cX11_makePiece 350 = .ok (.iadd, 1) := by decide +kernel
theorem dX11_makePiece_351 : decode cX11_makePiece 351 = .ok (.iaload, 1) := by decide +kernel
theorem dX11_makePiece_352 : decode cX11_makePiece 352 = .ok (.invokevirtual 209, 3) := by decide +kernel
theorem dX11_makePiece_355 : decode cX11_makePiece 355 = .ok (.aload_n 0, 1) := by decide +kernel
theorem dX11_makePiece_356 : decode cX11_makePiece 356 = .ok (.getfield 34, 3) := by decide +kernel
theorem dX11_makePiece_359 : decode cX11_makePiece 359 = .ok (.iload_n 3, 1) := by decide +kernel
theorem dX11_makePiece_360 : decode cX11_makePiece 360 = .ok (.iaload, 1) := by decide +kernel
theorem dX11_makePiece_361 : decode cX11_makePiece 361 = .ok (.iconst 3, 1) := by decide +kernel
theorem dX11_makePiece_362 : decode cX11_makePiece 362 = .ok (.if_icmp .ne 38, 3) := by decide +kernel
theorem dX11_makePiece_365 : decode cX11_makePiece 365 = .ok (.aload_n 0, 1) := by decide +kernel
theorem dX11_makePiece_366 : decode cX11_makePiece 366 = .ok (.aload_n 0, 1) := by decide +kernel
theorem dX11_makePiece_367 : decode cX11_makePiece 367 = .ok (.getfield 22, 3) := by decide +kernel
theorem dX11_makePiece_370 : decode cX11_makePiece 370 = .ok (.iconst 4, 1) := by decide +kernel
theorem dX11_makePiece_371 : decode cX11_makePiece 371 = .ok (.iload_n 1, 1) := by decide +kernel
theorem dX11_makePiece_372 : decode cX11_makePiece 372 = .ok (.imul, 1) := by decide +kernel
theorem dX11_makePiece_373 : decode cX11_makePiece 373 = .ok (.aload_n 0, 1) := by decide +kernel
theorem dX11_makePiece_374 : decode cX11_makePiece 374 = .ok (.getfield 37, 3) := by decide +kernel
theorem dX11_makePiece_377 : decode cX11_makePiece 377 = .ok (.iload_n 3, 1) := by decide +kernel
theorem dX11_makePiece_378 : decode cX11_makePiece 378 = .ok (.iaload, 1) := by decide +kernel
theorem dX11_makePiece_379 : decode cX11_makePiece 379 = .ok (.iadd, 1) := by decide +kernel
theorem dX11_makePiece_380 : decode cX11_makePiece 380 = .ok (.iaload, 1) := by decide +kernel
theorem dX11_makePiece_381 : decode cX11_makePiece 381 = .ok (.aload_n 0, 1) := by decide +kernel
theorem dX11_makePiece_382 : decode cX11_makePiece 382 = .ok (.getfield 22, 3) := by decide +kernel
theorem dX11_makePiece_385 : decode cX11_makePiece 385 = .ok (.iconst 4, 1) := by decide +kernel
theorem dX11_makePiece_386 : decode cX11_makePiece 386 = .ok (.iload_n 1, 1) := by decide +kernel
theorem dX11_makePiece_387 : decode cX11_makePiece 387 = .ok (.imul, 1) := by decide +kernel
theorem dX11_makePiece_388 : decode cX11_makePiece 388 = .ok (.aload_n 0, 1) := by decide +kernel
theorem dX11_makePiece_389 : decode cX11_makePiece 389 = .ok (.getfield 40, 3) := by decide +kernel
theorem dX11_makePiece_392 : decode cX11_makePiece 392 = .ok (.iload_n 3, 1) := by decide +kernel
theorem dX11_makePiece_393 : decode cX11_makePiece 393 = .ok (.iaload, 1) := by decide +kernel
theorem dX11_makePiece_394 : decode cX11_makePiece 394 = .ok (.iadd, 1) := by decide +kernel
theorem dX11_makePiece_395 : decode cX11_makePiece 395 = .ok (.iaload, 1) := by decide +kernel
theorem dX11_makePiece_396 : decode cX11_makePiece 396 = .ok (.iadd, 1) := by decide +kernel
theorem dX11_makePiece_397 : decode cX11_makePiece 397 = .ok (.invokevirtual 209, 3) := by decide +kernel
theorem dX11_makePiece_400 : decode cX11_makePiece 400 = .ok (.aload_n 0, 1) := by decide +kernel
theorem dX11_makePiece_401 : decode cX11_makePiece 401 = .ok (.getfield 83, 3) := by decide +kernel
theorem dX11_makePiece_404 : decode cX11_makePiece 404 = .ok (.iload 4, 2) := by decide +kernel
theorem dX11_makePiece_406 : decode cX11_makePiece 406 = .ok (.aload_n 0, 1) := by decide +kernel
theorem dX11_makePiece_407 : decode cX11_makePiece 407 = .ok (.getfield 203, 3) := by decide +kernel
theorem dX11_makePiece_410 : decode cX11_makePiece 410 = .ok (.aload_n 0, 1) := by decide +kernel
theorem dX11_makePiece_411 : decode cX11_makePiece 411 = .ok (.getfield 80, 3) := by decide +kernel
theorem dX11_makePiece_414 : decode cX11_makePiece 414 = .ok (.iload 4, 2) := by decide +kernel
theorem dX11_makePiece_416 : decode cX11_makePiece 416 = .ok (.iaload, 1) := by decide +kernel
theorem dX11_makePiece_417 : decode cX11_makePiece 417 = .ok (.isub, 1) := by decide +kernel
theorem dX11_makePiece_418 : decode cX11_makePiece 418 = .ok (.iastore, 1) := by decide +kernel
theorem dX11_makePiece_419 : decode cX11_makePiece 419 = .ok (.return_, 1) := by decide +kernel
theorem dX11_childAt_0 : decode cX11_childAt 0 = .ok (.iconst 0, 1) := by decide +kernel
theorem dX11_childAt_1 : decode cX11_childAt 1 = .ok (.istore_n 3, 1) := by decide +kernel
theorem dX11_childAt_2 : decode cX11_childAt 2 = .ok (.iload_n 3, 1) := by decide +kernel
theorem dX11_childAt_3 : decode cX11_childAt 3 = .ok (.bipush 24, 2) := by decide +kernel
theorem dX11_childAt_5 : decode cX11_childAt 5 = .ok (.if_icmp .ge 40, 3) := by decide +kernel
theorem dX11_childAt_8 : decode cX11_childAt 8 = .ok (.aload_n 0, 1) := by decide +kernel
theorem dX11_childAt_9 : decode cX11_childAt 9 = .ok (.getfield 7, 3) := by decide +kernel
theorem dX11_childAt_12 : decode cX11_childAt 12 = .ok (.iload_n 3, 1) := by decide +kernel
theorem dX11_childAt_13 : decode cX11_childAt 13 = .ok (.iaload, 1) := by decide +kernel
theorem dX11_childAt_14 : decode cX11_childAt 14 = .ok (.ifCond .lt 25, 3) := by decide +kernel
theorem dX11_childAt_17 : decode cX11_childAt 17 = .ok (.aload_n 0, 1) := by decide +kernel
theorem dX11_childAt_18 : decode cX11_childAt 18 = .ok (.getfield 16, 3) := by decide +kernel
theorem dX11_childAt_21 : decode cX11_childAt 21 = .ok (.iload_n 3, 1) := by decide +kernel
theorem dX11_childAt_22 : decode cX11_childAt 22 = .ok (.iaload, 1) := by decide +kernel
theorem dX11_childAt_23 : decode cX11_childAt 23 = .ok (.iload_n 1, 1) := by decide +kernel
theorem dX11_childAt_24 : decode cX11_childAt 24 = .ok (.if_icmp .ne 15, 3) := by decide +kernel
theorem dX11_childAt_27 : decode cX11_childAt 27 = .ok (.aload_n 0, 1) := by decide +kernel
theorem dX11_childAt_28 : decode cX11_childAt 28 = .ok (.getfield 19, 3) := by decide +kernel
theorem dX11_childAt_31 : decode cX11_childAt 31 = .ok (.iload_n 3, 1) := by decide +kernel
theorem dX11_childAt_32 : decode cX11_childAt 32 = .ok (.iaload, 1) := by decide +kernel
theorem dX11_childAt_33 : decode cX11_childAt 33 = .ok (.iload_n 2, 1) := by decide +kernel
theorem dX11_childAt_34 : decode cX11_childAt 34 = .ok (.if_icmp .ne 5, 3) := by decide +kernel
theorem dX11_childAt_37 : decode cX11_childAt 37 = .ok (.iload_n 3, 1) := by decide +kernel
theorem dX11_childAt_38 : decode cX11_childAt 38 = .ok (.ireturn, 1) := by decide +kernel
theorem dX11_childAt_39 : decode cX11_childAt 39 = .ok (.iinc 3 1, 3) := by decide +kernel
theorem dX11_childAt_42 : decode cX11_childAt 42 = .ok (.goto (-40), 3) := by decide +kernel
theorem dX11_childAt_45 : decode cX11_childAt 45 = .ok (.iconst (-1), 1) := by decide +kernel
theorem dX11_childAt_46 : decode cX11_childAt 46 = .ok (.ireturn, 1) := by decide +kernel
theorem dX11_step_0 : decode cX11_step 0 = .ok (.aload_n 0, 1) := by decide +kernel
theorem dX11_step_1 : decode cX11_step 1 = .ok (.getfield 200, 3) := by decide +kernel
theorem dX11_step_4 : decode cX11_step 4 = .ok (.iconst 1, 1) := by decide +kernel
theorem dX11_step_5 : decode cX11_step 5 = .ok (.isub, 1) := by decide +kernel
theorem dX11_step_6 : decode cX11_step 6 = .ok (.istore_n 1, 1) := by decide +kernel
theorem dX11_step_7 : decode cX11_step 7 = .ok (.aload_n 0, 1) := by decide +kernel
theorem dX11_step_8 : decode cX11_step 8 = .ok (.getfield 106, 3) := by decide +kernel
theorem dX11_step_11 : decode cX11_step 11 = .ok (.iload_n 1, 1) := by decide +kernel
theorem dX11_step_12 : decode cX11_step 12 = .ok (.iaload, 1) := by decide +kernel
theorem dX11_step_13 : decode cX11_step 13 = .ok (.istore_n 2, 1) := by decide +kernel
theorem dX11_step_14 : decode cX11_step 14 = .ok (.aload_n 0, 1) := by decide +kernel
theorem dX11_step_15 : decode cX11_step 15 = .ok (.getfield 13, 3) := by decide +kernel
theorem dX11_step_18 : decode cX11_step 18 = .ok (.iload_n 2, 1) := by decide +kernel
theorem dX11_step_19 : decode cX11_step 19 = .ok (.iaload, 1) := by decide +kernel
theorem dX11_step_20 : decode cX11_step 20 = .ok (.istore_n 3, 1) := by decide +kernel
theorem dX11_step_21 : decode cX11_step 21 = .ok (.aload_n 0, 1) := by decide +kernel
theorem dX11_step_22 : decode cX11_step 22 = .ok (.getfield 112, 3) := by decide +kernel
theorem dX11_step_25 : decode cX11_step 25 = .ok (.iload_n 1, 1) := by decide +kernel
theorem dX11_step_26 : decode cX11_step 26 = .ok (.iaload, 1) := by decide +kernel
theorem dX11_step_27 : decode cX11_step 27 = .ok (.ifCond .lt 76, 3) := by decide +kernel
theorem dX11_step_30 : decode cX11_step 30 = .ok (.aload_n 0, 1) := by decide +kernel
theorem dX11_step_31 : decode cX11_step 31 = .ok (.iload_n 2, 1) := by decide +kernel
theorem dX11_step_32 : decode cX11_step 32 = .ok (.aload_n 0, 1) := by decide +kernel
theorem dX11_step_33 : decode cX11_step 33 = .ok (.getfield 112, 3) := by decide +kernel
theorem dX11_step_36 : decode cX11_step 36 = .ok (.iload_n 1, 1) := by decide +kernel
theorem dX11_step_37 : decode cX11_step 37 = .ok (.iaload, 1) := by decide +kernel
theorem dX11_step_38 : decode cX11_step 38 = .ok (.invokevirtual 212, 3) := by decide +kernel
theorem dX11_step_41 : decode cX11_step 41 = .ok (.istore 4, 2) := by decide +kernel
theorem dX11_step_43 : decode cX11_step 43 = .ok (.aload_n 0, 1) := by decide +kernel
theorem dX11_step_44 : decode cX11_step 44 = .ok (.getfield 112, 3) := by decide +kernel
theorem dX11_step_47 : decode cX11_step 47 = .ok (.iload_n 1, 1) := by decide +kernel
theorem dX11_step_48 : decode cX11_step 48 = .ok (.dup2, 1) := by decide +kernel
theorem dX11_step_49 : decode cX11_step 49 = .ok (.iaload, 1) := by decide +kernel
theorem dX11_step_50 : decode cX11_step 50 = .ok (.iconst 1, 1) := by decide +kernel
theorem dX11_step_51 : decode cX11_step 51 = .ok (.iadd, 1) := by decide +kernel
theorem dX11_step_52 : decode cX11_step 52 = .ok (.iastore, 1) := by decide +kernel
theorem dX11_step_53 : decode cX11_step 53 = .ok (.iload 4, 2) := by decide +kernel
theorem dX11_step_55 : decode cX11_step 55 = .ok (.ifCond .ge 13, 3) := by decide +kernel
theorem dX11_step_58 : decode cX11_step 58 = .ok (.aload_n 0, 1) := by decide +kernel
theorem dX11_step_59 : decode cX11_step 59 = .ok (.getfield 112, 3) := by decide +kernel
theorem dX11_step_62 : decode cX11_step 62 = .ok (.iload_n 1, 1) := by decide +kernel
theorem dX11_step_63 : decode cX11_step 63 = .ok (.iconst (-1), 1) := by decide +kernel
theorem dX11_step_64 : decode cX11_step 64 = .ok (.iastore, 1) := by decide +kernel
theorem dX11_step_65 : decode cX11_step 65 = .ok (.goto 37, 3) := by decide +kernel
theorem dX11_step_68 : decode cX11_step 68 = .ok (.aload_n 0, 1) := by decide +kernel
theorem dX11_step_69 : decode cX11_step 69 = .ok (.getfield 13, 3) := by decide +kernel
theorem dX11_step_72 : decode cX11_step 72 = .ok (.iload 4, 2) := by decide +kernel
theorem dX11_step_74 : decode cX11_step 74 = .ok (.iaload, 1) := by decide +kernel
theorem dX11_step_75 : decode cX11_step 75 = .ok (.aload_n 0, 1) := by decide +kernel
theorem dX11_step_76 : decode cX11_step 76 = .ok (.getfield 37, 3) := by decide +kernel
theorem dX11_step_79 : decode cX11_step 79 = .ok (.bipush 20, 2) := by decide +kernel
theorem dX11_step_81 : decode cX11_step 81 = .ok (.iload_n 3, 1) := by decide +kernel
theorem dX11_step_82 : decode cX11_step 82 = .ok (.imul, 1) := by decide +kernel
theorem dX11_step_83 : decode cX11_step 83 = .ok (.aload_n 0, 1) := by decide +kernel
theorem dX11_step_84 : decode cX11_step 84 = .ok (.getfield 109, 3) := by decide +kernel
theorem dX11_step_87 : decode cX11_step 87 = .ok (.iload_n 1, 1) := by decide +kernel
theorem dX11_step_88 : decode cX11_step 88 = .ok (.iaload, 1) := by decide +kernel
theorem dX11_step_89 : decode cX11_step 89 = .ok (.iadd, 1) := by decide +kernel
theorem dX11_step_90 : decode cX11_step 90 = .ok (.iconst 1, 1) := by decide +kernel
theorem dX11_step_91 : decode cX11_step 91 = .ok (.isub, 1) := by decide +kernel
theorem dX11_step_92 : decode cX11_step 92 = .ok (.iaload, 1) := by decide +kernel
theorem dX11_step_93 : decode cX11_step 93 = .ok (.if_icmp .ne 9, 3) := by decide +kernel
theorem dX11_step_96 : decode cX11_step 96 = .ok (.aload_n 0, 1) := by decide +kernel
theorem dX11_step_97 : decode cX11_step 97 = .ok (.iload 4, 2) := by decide +kernel
theorem dX11_step_99 : decode cX11_step 99 = .ok (.invokevirtual 216, 3) := by decide +kernel
theorem dX11_step_102 : decode cX11_step 102 = .ok (.return_, 1) := by decide +kernel
theorem dX11_step_103 : decode cX11_step 103 = .ok (.aload_n 0, 1) := by decide +kernel
theorem dX11_step_104 : decode cX11_step 104 = .ok (.getfield 109, 3) := by decide +kernel
theorem dX11_step_107 : decode cX11_step 107 = .ok (.iload_n 1, 1) := by decide +kernel
theorem dX11_step_108 : decode cX11_step 108 = .ok (.iaload, 1) := by decide +kernel
theorem dX11_step_109 : decode cX11_step 109 = .ok (.aload_n 0, 1) := by decide +kernel
theorem dX11_step_110 : decode cX11_step 110 = .ok (.getfield 31, 3) := by decide +kernel
theorem dX11_step_113 : decode cX11_step 113 = .ok (.iload_n 3, 1) := by decide +kernel
theorem dX11_step_114 : decode cX11_step 114 = .ok (.iaload, 1) := by decide +kernel
theorem dX11_step_115 : decode cX11_step 115 = .ok (.if_icmp .ne 14, 3) := by decide +kernel
theorem dX11_step_118 : decode cX11_step 118 = .ok (.aload_n 0, 1) := by decide +kernel
theorem dX11_step_119 : decode cX11_step 119 = .ok (.dup, 1) := by decide +kernel
theorem dX11_step_120 : decode cX11_step 120 = .ok (.getfield 200, 3) := by decide +kernel
theorem dX11_step_123 : decode cX11_step 123 = .ok (.iconst 1, 1) := by decide +kernel
theorem dX11_step_124 : decode cX11_step 124 = .ok (.isub, 1) := by decide +kernel
theorem dX11_step_125 : decode cX11_step 125 = .ok (.putfield 200, 3) := by decide +kernel
theorem dX11_step_128 : decode cX11_step 128 = .ok (.return_, 1) := by decide +kernel
theorem dX11_step_129 : decode cX11_step 129 = .ok (.aload_n 0, 1) := by decide +kernel
theorem dX11_step_130 : decode cX11_step 130 = .ok (.getfield 109, 3) := by decide +kernel
theorem dX11_step_133 : decode cX11_step 133 = .ok (.iload_n 1, 1) := by decide +kernel
theorem dX11_step_134 : decode cX11_step 134 = .ok (.iaload, 1) := by decide +kernel
theorem dX11_step_135 : decode cX11_step 135 = .ok (.istore 4, 2) := by decide +kernel
theorem dX11_step_137 : decode cX11_step 137 = .ok (.aload_n 0, 1) := by decide +kernel
theorem dX11_step_138 : decode cX11_step 138 = .ok (.getfield 34, 3) := by decide +kernel
theorem dX11_step_141 : decode cX11_step 141 = .ok (.bipush 20, 2) := by decide +kernel
theorem dX11_step_143 : decode cX11_step 143 = .ok (.iload_n 3, 1) := by decide +kernel
theorem dX11_step_144 : decode cX11_step 144 = .ok (.imul, 1) := by decide +kernel
theorem dX11_step_145 : decode cX11_step 145 = .ok (.iload 4, 2) := by decide +kernel
theorem dX11_step_147 : decode cX11_step 147 = .ok (.iadd, 1) := by decide +kernel
theorem dX11_step_148 : decode cX11_step 148 = .ok (.iaload, 1) := by decide +kernel
theorem dX11_step_149 : decode cX11_step 149 = .ok (.istore 5, 2) := by decide +kernel
theorem dX11_step_151 : decode cX11_step 151 = .ok (.aload_n 0, 1) := by decide +kernel
theorem dX11_step_152 : decode cX11_step 152 = .ok (.getfield 109, 3) := by decide +kernel
theorem dX11_step_155 : decode cX11_step 155 = .ok (.iload_n 1, 1) := by decide +kernel
theorem dX11_step_156 : decode cX11_step 156 = .ok (.dup2, 1) := by decide +kernel
theorem dX11_step_157 : decode cX11_step 157 = .ok (.iaload, 1) := by decide +kernel
theorem dX11_step_158 : decode cX11_step 158 = .ok (.iconst 1, 1) := by decide +kernel
theorem dX11_step_159 : decode cX11_step 159 = .ok (.iadd, 1) := by decide +kernel
theorem dX11_step_160 : decode cX11_step 160 = .ok (.iastore, 1) := by decide +kernel
theorem dX11_step_161 : decode cX11_step 161 = .ok (.iload 5, 2) := by decide +kernel
theorem dX11_step_163 : decode cX11_step 163 = .ok (.bipush 7, 2) := by decide +kernel
theorem dX11_step_165 : decode cX11_step 165 = .ok (.if_icmp .ne 10, 3) := by decide +kernel
theorem dX11_step_168 : decode cX11_step 168 = .ok (.aload_n 0, 1) := by decide +kernel
theorem dX11_step_169 : decode cX11_step 169 = .ok (.getfield 115, 3) := by decide +kernel
theorem dX11_step_172 : decode cX11_step 172 = .ok (.iload_n 1, 1) := by decide +kernel
theorem dX11_step_173 : decode cX11_step 173 = .ok (.iconst 0, 1) := by decide +kernel
theorem dX11_step_174 : decode cX11_step 174 = .ok (.bastore, 1) := by decide +kernel
theorem dX11_step_175 : decode cX11_step 175 = .ok (.iload 5, 2) := by decide +kernel
theorem dX11_step_177 : decode cX11_step 177 = .ok (.bipush 6, 2) := by decide +kernel
theorem dX11_step_179 : decode cX11_step 179 = .ok (.if_icmp .ne 38, 3) := by decide +kernel
theorem dX11_step_182 : decode cX11_step 182 = .ok (.aload_n 0, 1) := by decide +kernel
theorem dX11_step_183 : decode cX11_step 183 = .ok (.getfield 115, 3) := by decide +kernel
theorem dX11_step_186 : decode cX11_step 186 = .ok (.iload_n 1, 1) := by decide +kernel
theorem dX11_step_187 : decode cX11_step 187 = .ok (.aload_n 0, 1) := by decide +kernel
theorem dX11_step_188 : decode cX11_step 188 = .ok (.getfield 22, 3) := by decide +kernel
theorem dX11_step_191 : decode cX11_step 191 = .ok (.iconst 4, 1) := by decide +kernel
theorem dX11_step_192 : decode cX11_step 192 = .ok (.iload_n 2, 1) := by decide +kernel
theorem dX11_step_193 : decode cX11_step 193 = .ok (.imul, 1) := by decide +kernel
theorem dX11_step_194 : decode cX11_step 194 = .ok (.aload_n 0, 1) := by decide +kernel
theorem dX11_step_195 : decode cX11_step 195 = .ok (.getfield 37, 3) := by decide +kernel
theorem dX11_step_198 : decode cX11_step 198 = .ok (.bipush 20, 2) := by decide +kernel
theorem dX11_step_200 : decode cX11_step 200 = .ok (.iload_n 3, 1) := by decide +kernel
theorem dX11_step_201 : decode cX11_step 201 = .ok (.imul, 1) := by decide +kernel
theorem dX11_step_202 : decode cX11_step 202 = .ok (.iload 4, 2) := by decide +kernel
theorem dX11_step_204 : decode cX11_step 204 = .ok (.iadd, 1) := by decide +kernel
theorem dX11_step_205 : decode cX11_step 205 = .ok (.iaload, 1) := by decide +kernel
theorem dX11_step_206 : decode cX11_step 206 = .ok (.iadd, 1) := by decide +kernel
theorem dX11_step_207 : decode cX11_step 207 = .ok (.iaload, 1) := by decide +kernel
theorem dX11_step_208 : decode cX11_step 208 = .ok (.ifCond .ne 7, 3) := by decide +kernel
theorem dX11_step_211 : decode cX11_step 211 = .ok (.iconst 1, 1) := by decide +kernel
theorem dX11_step_212 : decode cX11_step 212 = .ok (.goto 4, 3) := by decide +kernel
theorem dX11_step_215 : decode cX11_step 215 = .ok (.iconst 0, 1) := by decide +kernel
theorem dX11_step_216 : decode cX11_step 216 = .ok (.bastore, 1) := by decide +kernel
theorem dX11_step_217 : decode cX11_step 217 = .ok (.iload 5, 2) := by decide +kernel
theorem dX11_step_219 : decode cX11_step 219 = .ok (.iconst 5, 1) := by decide +kernel
theorem dX11_step_220 : decode cX11_step 220 = .ok (.if_icmp .gt 12, 3) := by decide +kernel
theorem dX11_step_223 : decode cX11_step 223 = .ok (.aload_n 0, 1) := by decide +kernel
theorem dX11_step_224 : decode cX11_step 224 = .ok (.getfield 115, 3) := by decide +kernel
theorem dX11_step_227 : decode cX11_step 227 = .ok (.iload_n 1, 1) := by decide +kernel
theorem dX11_step_228 : decode cX11_step 228 = .ok (.baload, 1) := by decide +kernel
theorem dX11_step_229 : decode cX11_step 229 = .ok (.ifCond .eq 4, 3) := by decide +kernel
theorem dX11_step_232 : decode cX11_step 232 = .ok (.return_, 1) := by decide +kernel
theorem dX11_step_233 : decode cX11_step 233 = .ok (.iload 5, 2) := by decide +kernel
theorem dX11_step_235 : decode cX11_step 235 = .ok (.iconst 5, 1) := by decide +kernel
theorem dX11_step_236 : decode cX11_step 236 = .ok (.if_icmp .ne 13, 3) := by decide +kernel
theorem dX11_step_239 : decode cX11_step 239 = .ok (.aload_n 0, 1) := by decide +kernel
theorem dX11_step_240 : decode cX11_step 240 = .ok (.getfield 112, 3) := by decide +kernel
theorem dX11_step_243 : decode cX11_step 243 = .ok (.iload_n 1, 1) := by decide +kernel
theorem dX11_step_244 : decode cX11_step 244 = .ok (.iconst 0, 1) := by decide +kernel
theorem dX11_step_245 : decode cX11_step 245 = .ok (.iastore, 1) := by decide +kernel
theorem dX11_step_246 : decode cX11_step 246 = .ok (.goto 10, 3) := by decide +kernel
theorem dX11_step_249 : decode cX11_step 249 = .ok (.aload_n 0, 1) := by decide +kernel
theorem dX11_step_250 : decode cX11_step 250 = .ok (.iload_n 2, 1) := by decide +kernel
theorem dX11_step_251 : decode cX11_step 251 = .ok (.iload 4, 2) := by decide +kernel
theorem dX11_step_253 : decode cX11_step 253 = .ok (.invokevirtual 219, 3) := by decide +kernel
theorem dX11_step_256 : decode cX11_step 256 = .ok (.return_, 1) := by decide +kernel
theorem dX11_makeNew_0 : decode cX11_makeNew 0 = .ok (.aload_n 0, 1) := by decide +kernel
theorem dX11_makeNew_1 : decode cX11_makeNew 1 = .ok (.getfield 56, 3) := by decide +kernel
theorem dX11_makeNew_4 : decode cX11_makeNew 4 = .ok (.iconst 1, 1) := by decide +kernel
theorem dX11_makeNew_5 : decode cX11_makeNew 5 = .ok (.iconst 0, 1) := by decide +kernel
theorem dX11_makeNew_6 : decode cX11_makeNew 6 = .ok (.iastore, 1) := by decide +kernel
theorem dX11_makeNew_7 : decode cX11_makeNew 7 = .ok (.aload_n 0, 1) := by decide +kernel
theorem dX11_makeNew_8 : decode cX11_makeNew 8 = .ok (.iconst 0, 1) := by decide +kernel
theorem dX11_makeNew_9 : decode cX11_makeNew 9 = .ok (.putfield 203, 3) := by decide +kernel
theorem dX11_makeNew_12 : decode cX11_makeNew 12 = .ok (.aload_n 0, 1) := by decide +kernel
theorem dX11_makeNew_13 : decode cX11_makeNew 13 = .ok (.iconst 0, 1) := by decide +kernel
theorem dX11_makeNew_14 : decode cX11_makeNew 14 = .ok (.putfield 194, 3) := by decide +kernel
theorem dX11_makeNew_17 : decode cX11_makeNew 17 = .ok (.aload_n 0, 1) := by decide +kernel
theorem dX11_makeNew_18 : decode cX11_makeNew 18 = .ok (.iconst 0, 1) := by decide +kernel
theorem dX11_makeNew_19 : decode cX11_makeNew 19 = .ok (.putfield 200, 3) := by decide +kernel
theorem dX11_makeNew_22 : decode cX11_makeNew 22 = .ok (.aload_n 0, 1) := by decide +kernel
theorem dX11_makeNew_23 : decode cX11_makeNew 23 = .ok (.iconst 0, 1) := by decide +kernel
theorem dX11_makeNew_24 : decode cX11_makeNew 24 = .ok (.putfield 197, 3) := by decide +kernel
theorem dX11_makeNew_27 : decode cX11_makeNew 27 = .ok (.aload_n 0, 1) := by decide +kernel
theorem dX11_makeNew_28 : decode cX11_makeNew 28 = .ok (.iconst (-1), 1) := by decide +kernel
theorem dX11_makeNew_29 : decode cX11_makeNew 29 = .ok (.invokevirtual 156, 3) := by decide +kernel
theorem dX11_makeNew_32 : decode cX11_makeNew 32 = .ok (.istore_n 1, 1) := by decide +kernel
theorem dX11_makeNew_33 : decode cX11_makeNew 33 = .ok (.iconst 0, 1) := by decide +kernel
theorem dX11_makeNew_34 : decode cX11_makeNew 34 = .ok (.istore_n 2, 1) := by decide +kernel
theorem dX11_makeNew_35 : decode cX11_makeNew 35 = .ok (.iload_n 2, 1) := by decide +kernel
theorem dX11_makeNew_36 : decode cX11_makeNew 36 = .ok (.iload_n 1, 1) := by decide +kernel
theorem dX11_makeNew_37 : decode cX11_makeNew 37 = .ok (.if_icmp .ge 47, 3) := by decide +kernel
theorem dX11_makeNew_40 : decode cX11_makeNew 40 = .ok (.aload_n 0, 1) := by decide +kernel
theorem dX11_makeNew_41 : decode cX11_makeNew 41 = .ok (.getfield 197, 3) := by decide +kernel
theorem dX11_makeNew_44 : decode cX11_makeNew 44 = .ok (.ifCond .ne 40, 3) := by decide +kernel
theorem dX11_makeNew_47 : decode cX11_makeNew 47 = .ok (.aload_n 0, 1) := by decide +kernel
theorem dX11_makeNew_48 : decode cX11_makeNew 48 = .ok (.aload_n 0, 1) := by decide +kernel
theorem dX11_makeNew_49 : decode cX11_makeNew 49 = .ok (.iconst (-1), 1) := by decide +kernel
theorem dX11_makeNew_50 : decode cX11_makeNew 50 = .ok (.iload_n 2, 1) := by decide +kernel
theorem dX11_makeNew_51 : decode cX11_makeNew 51 = .ok (.invokevirtual 212, 3) := by decide +kernel
theorem dX11_makeNew_54 : decode cX11_makeNew 54 = .ok (.invokevirtual 216, 3) := by decide +kernel
theorem dX11_makeNew_57 : decode cX11_makeNew 57 = .ok (.aload_n 0, 1) := by decide +kernel
theorem dX11_makeNew_58 : decode cX11_makeNew 58 = .ok (.getfield 200, 3) := by decide +kernel
theorem dX11_makeNew_61 : decode cX11_makeNew 61 = .ok (.ifCond .le 17, 3) := by decide +kernel
theorem dX11_makeNew_64 : decode cX11_makeNew 64 = .ok (.aload_n 0, 1) := by decide +kernel
theorem dX11_makeNew_65 : decode cX11_makeNew 65 = .ok (.getfield 197, 3) := by decide +kernel
theorem dX11_makeNew_68 : decode cX11_makeNew 68 = .ok (.ifCond .ne 10, 3) := by decide +kernel
theorem dX11_makeNew_71 : decode cX11_makeNew 71 = .ok (.aload_n 0, 1) := by decide +kernel
theorem dX11_makeNew_72 : decode cX11_makeNew 72 = .ok (.invokevirtual 223, 3) := by decide +kernel
theorem dX11_makeNew_75 : decode cX11_makeNew 75 = .ok (.goto (-18), 3) := by decide +kernel
theorem dX11_makeNew_78 : decode cX11_makeNew 78 = .ok (.iinc 2 1, 3) := by decide +kernel
theorem dX11_makeNew_81 : decode cX11_makeNew 81 = .ok (.goto (-46), 3) := by decide +kernel
theorem dX11_makeNew_84 : decode cX11_makeNew 84 = .ok (.aload_n 0, 1) := by decide +kernel
theorem dX11_makeNew_85 : decode cX11_makeNew 85 = .ok (.getfield 197, 3) := by decide +kernel
theorem dX11_makeNew_88 : decode cX11_makeNew 88 = .ok (.ifCond .ne 7, 3) := by decide +kernel
theorem dX11_makeNew_91 : decode cX11_makeNew 91 = .ok (.iconst 1, 1) := by decide +kernel
theorem dX11_makeNew_92 : decode cX11_makeNew 92 = .ok (.goto 4, 3) := by decide +kernel
theorem dX11_makeNew_95 : decode cX11_makeNew 95 = .ok (.iconst 0, 1) := by decide +kernel
theorem dX11_makeNew_96 : decode cX11_makeNew 96 = .ok (.ireturn, 1) := by decide +kernel
theorem dX11_isSame_0 : decode cX11_isSame 0 = .ok (.aload_n 0, 1) := by decide +kernel
theorem dX11_isSame_1 : decode cX11_isSame 1 = .ok (.getfield 59, 3) := by decide +kernel
theorem dX11_isSame_4 : decode cX11_isSame 4 = .ok (.iload_n 1, 1) := by decide +kernel
theorem dX11_isSame_5 : decode cX11_isSame 5 = .ok (.iaload, 1) := by decide +kernel
theorem dX11_isSame_6 : decode cX11_isSame 6 = .ok (.aload_n 0, 1) := by decide +kernel
theorem dX11_isSame_7 : decode cX11_isSame 7 = .ok (.getfield 59, 3) := by decide +kernel
theorem dX11_isSame_10 : decode cX11_isSame 10 = .ok (.iload_n 2, 1) := by decide +kernel
theorem dX11_isSame_11 : decode cX11_isSame 11 = .ok (.iaload, 1) := by decide +kernel
theorem dX11_isSame_12 : decode cX11_isSame 12 = .ok (.if_icmp .ne 33, 3) := by decide +kernel
theorem dX11_isSame_15 : decode cX11_isSame 15 = .ok (.aload_n 0, 1) := by decide +kernel
theorem dX11_isSame_16 : decode cX11_isSame 16 = .ok (.getfield 62, 3) := by decide +kernel
theorem dX11_isSame_19 : decode cX11_isSame 19 = .ok (.iload_n 1, 1) := by decide +kernel
theorem dX11_isSame_20 : decode cX11_isSame 20 = .ok (.iaload, 1) := by decide +kernel
theorem dX11_isSame_21 : decode cX11_isSame 21 = .ok (.aload_n 0, 1) := by decide +kernel
theorem dX11_isSame_22 : decode cX11_isSame 22 = .ok (.getfield 62, 3) := by decide +kernel
theorem dX11_isSame_25 : decode cX11_isSame 25 = .ok (.iload_n 2, 1) := by decide +kernel
theorem dX11_isSame_26 : decode cX11_isSame 26 = .ok (.iaload, 1) := by decide +kernel
theorem dX11_isSame_27 : decode cX11_isSame 27 = .ok (.if_icmp .ne 18, 3) := by decide +kernel
theorem dX11_isSame_30 : decode cX11_isSame 30 = .ok (.aload_n 0, 1) := by decide +kernel
theorem dX11_isSame_31 : decode cX11_isSame 31 = .ok (.getfield 71, 3) := by decide +kernel
theorem dX11_isSame_34 : decode cX11_isSame 34 = .ok (.iload_n 1, 1) := by decide +kernel
theorem dX11_isSame_35 : decode cX11_isSame 35 = .ok (.iaload, 1) := by decide +kernel
theorem dX11_isSame_36 : decode cX11_isSame 36 = .ok (.aload_n 0, 1) := by decide +kernel
theorem dX11_isSame_37 : decode cX11_isSame 37 = .ok (.getfield 71, 3) := by decide +kernel
theorem dX11_isSame_40 : decode cX11_isSame 40 = .ok (.iload_n 2, 1) := by decide +kernel
theorem dX11_isSame_41 : decode cX11_isSame 41 = .ok (.iaload, 1) := by decide +kernel
theorem dX11_isSame_42 : decode cX11_isSame 42 = .ok (.if_icmp .eq 5, 3) := by decide +kernel
theorem dX11_isSame_45 : decode cX11_isSame 45 = .ok (.iconst 0, 1) := by decide +kernel
theorem dX11_isSame_46 : decode cX11_isSame 46 = .ok (.ireturn, 1) := by decide +kernel
theorem dX11_isSame_47 : decode cX11_isSame 47 = .ok (.iconst 0, 1) := by decide +kernel
theorem dX11_isSame_48 : decode cX11_isSame 48 = .ok (.istore_n 3, 1) := by decide +kernel
theorem dX11_isSame_49 : decode cX11_isSame 49 = .ok (.iload_n 3, 1) := by decide +kernel
theorem dX11_isSame_50 : decode cX11_isSame 50 = .ok (.iconst 2, 1) := by decide +kernel
theorem dX11_isSame_51 : decode cX11_isSame 51 = .ok (.aload_n 0, 1) := by decide +kernel
theorem dX11_isSame_52 : decode cX11_isSame 52 = .ok (.getfield 71, 3) := by decide +kernel
theorem dX11_isSame_55 : decode cX11_isSame 55 = .ok (.iload_n 1, 1) := by decide +kernel
theorem dX11_isSame_56 : decode cX11_isSame 56 = .ok (.iaload, 1) := by decide +kernel
theorem dX11_isSame_57 : decode cX11_isSame 57 = .ok (.imul, 1) := by decide +kernel
theorem dX11_isSame_58 : decode cX11_isSame 58 = .ok (.if_icmp .ge 36, 3) := by decide +kernel
theorem dX11_isSame_61 : decode cX11_isSame 61 = .ok (.aload_n 0, 1) := by decide +kernel
theorem dX11_isSame_62 : decode cX11_isSame 62 = .ok (.getfield 74, 3) := by decide +kernel
theorem dX11_isSame_65 : decode cX11_isSame 65 = .ok (.bipush 12, 2) := by decide +kernel
theorem dX11_isSame_67 : decode cX11_isSame 67 = .ok (.iload_n 1, 1) := by decide +kernel
theorem dX11_isSame_68 : decode cX11_isSame 68 = .ok (.imul, 1) := by decide +kernel
theorem dX11_isSame_69 : decode cX11_isSame 69 = .ok (.iload_n 3, 1) := by decide +kernel
theorem dX11_isSame_70 : decode cX11_isSame 70 = .ok (.iadd, 1) := by decide +kernel
theorem dX11_isSame_71 : decode cX11_isSame 71 = .ok (.iaload, 1) := by decide +kernel
theorem dX11_isSame_72 : decode cX11_isSame 72 = .ok (.aload_n 0, 1) := by decide +kernel
theorem dX11_isSame_73 : decode cX11_isSame 73 = .ok (.getfield 74, 3) := by decide +kernel
theorem dX11_isSame_76 : decode cX11_isSame 76 = .ok (.bipush 12, 2) := by decide +kernel
theorem dX11_isSame_78 : decode cX11_isSame 78 = .ok (.iload_n 2, 1) := by decide +kernel
theorem dX11_isSame_79 : decode cX11_isSame 79 = .ok (.imul, 1) := by decide +kernel
theorem dX11_isSame_80 : decode cX11_isSame 80 = .ok (.iload_n 3, 1) := by decide +kernel
theorem dX11_isSame_81 : decode cX11_isSame 81 = .ok (.iadd, 1) := by decide +kernel
theorem dX11_isSame_82 : decode cX11_isSame 82 = .ok (.iaload, 1) := by decide +kernel
theorem dX11_isSame_83 : decode cX11_isSame 83 = .ok (.if_icmp .eq 5, 3) := by decide +kernel
theorem dX11_isSame_86 : decode cX11_isSame 86 = .ok (.iconst 0, 1) := by decide +kernel
theorem dX11_isSame_87 : decode cX11_isSame 87 = .ok (.ireturn, 1) := by decide +kernel
theorem dX11_isSame_88 : decode cX11_isSame 88 = .ok (.iinc 3 1, 3) := by decide +kernel
theorem dX11_isSame_91 : decode cX11_isSame 91 = .ok (.goto (-42), 3) := by decide +kernel
theorem dX11_isSame_94 : decode cX11_isSame 94 = .ok (.iconst 1, 1) := by decide +kernel
theorem dX11_isSame_95 : decode cX11_isSame 95 = .ok (.ireturn, 1) := by decide +kernel
theorem dX11_sameOf_0 : decode cX11_sameOf 0 = .ok (.iload_n 1, 1) := by decide +kernel
theorem dX11_sameOf_1 : decode cX11_sameOf 1 = .ok (.istore 4, 2) := by decide +kernel
theorem dX11_sameOf_3 : decode cX11_sameOf 3 = .ok (.iload 4, 2) := by decide +kernel
theorem dX11_sameOf_5 : decode cX11_sameOf 5 = .ok (.iload_n 2, 1) := by decide +kernel
theorem dX11_sameOf_6 : decode cX11_sameOf 6 = .ok (.if_icmp .ge 22, 3) := by decide +kernel
theorem dX11_sameOf_9 : decode cX11_sameOf 9 = .ok (.aload_n 0, 1) := by decide +kernel
theorem dX11_sameOf_10 : decode cX11_sameOf 10 = .ok (.iload_n 3, 1) := by decide +kernel
theorem dX11_sameOf_11 : decode cX11_sameOf 11 = .ok (.iload 4, 2) := by decide +kernel
theorem dX11_sameOf_13 : decode cX11_sameOf 13 = .ok (.invokevirtual 226, 3) := by decide +kernel
theorem dX11_sameOf_16 : decode cX11_sameOf 16 = .ok (.ifCond .eq 6, 3) := by decide +kernel
theorem dX11_sameOf_19 : decode cX11_sameOf 19 = .ok (.iload 4, 2) := by decide +kernel
theorem dX11_sameOf_21 : decode cX11_sameOf 21 = .ok (.ireturn, 1) := by decide +kernel
theorem dX11_sameOf_22 : decode cX11_sameOf 22 = .ok (.iinc 4 1, 3) := by decide +kernel
theorem dX11_sameOf_25 : decode cX11_sameOf 25 = .ok (.goto (-22), 3) := by decide +kernel
theorem dX11_sameOf_28 : decode cX11_sameOf 28 = .ok (.iconst (-1), 1) := by decide +kernel
theorem dX11_sameOf_29 : decode cX11_sameOf 29 = .ok (.ireturn, 1) := by decide +kernel
theorem dX11_isMade_0 : decode cX11_isMade 0 = .ok (.aload_n 0, 1) := by decide +kernel
theorem dX11_isMade_1 : decode cX11_isMade 1 = .ok (.getfield 83, 3) := by decide +kernel
theorem dX11_isMade_4 : decode cX11_isMade 4 = .ok (.iload_n 1, 1) := by decide +kernel
theorem dX11_isMade_5 : decode cX11_isMade 5 = .ok (.iaload, 1) := by decide +kernel
theorem dX11_isMade_6 : decode cX11_isMade 6 = .ok (.iload 4, 2) := by decide +kernel
theorem dX11_isMade_8 : decode cX11_isMade 8 = .ok (.if_icmp .eq 5, 3) := by decide +kernel
theorem dX11_isMade_11 : decode cX11_isMade 11 = .ok (.iconst 0, 1) := by decide +kernel
theorem dX11_isMade_12 : decode cX11_isMade 12 = .ok (.ireturn, 1) := by decide +kernel
theorem dX11_isMade_13 : decode cX11_isMade 13 = .ok (.iload_n 1, 1) := by decide +kernel
theorem dX11_isMade_14 : decode cX11_isMade 14 = .ok (.sipush 250, 3) := by decide +kernel
theorem dX11_isMade_17 : decode cX11_isMade 17 = .ok (.if_icmp .ge 7, 3) := by decide +kernel
theorem dX11_isMade_20 : decode cX11_isMade 20 = .ok (.iconst 0, 1) := by decide +kernel
theorem dX11_isMade_21 : decode cX11_isMade 21 = .ok (.goto 6, 3) := by decide +kernel
theorem dX11_isMade_24 : decode cX11_isMade 24 = .ok (.sipush 3000, 3) := by decide +kernel
theorem dX11_isMade_27 : decode cX11_isMade 27 = .ok (.aload_n 0, 1) := by decide +kernel
theorem dX11_isMade_28 : decode cX11_isMade 28 = .ok (.getfield 80, 3) := by decide +kernel
theorem dX11_isMade_31 : decode cX11_isMade 31 = .ok (.iload_n 1, 1) := by decide +kernel
theorem dX11_isMade_32 : decode cX11_isMade 32 = .ok (.iaload, 1) := by decide +kernel
theorem dX11_isMade_33 : decode cX11_isMade 33 = .ok (.iadd, 1) := by decide +kernel
theorem dX11_isMade_34 : decode cX11_isMade 34 = .ok (.istore 5, 2) := by decide +kernel
theorem dX11_isMade_36 : decode cX11_isMade 36 = .ok (.iconst 0, 1) := by decide +kernel
theorem dX11_isMade_37 : decode cX11_isMade 37 = .ok (.istore 6, 2) := by decide +kernel
theorem dX11_isMade_39 : decode cX11_isMade 39 = .ok (.iload 6, 2) := by decide +kernel
theorem dX11_isMade_41 : decode cX11_isMade 41 = .ok (.iload 4, 2) := by decide +kernel
theorem dX11_isMade_43 : decode cX11_isMade 43 = .ok (.if_icmp .ge 30, 3) := by decide +kernel
theorem dX11_isMade_46 : decode cX11_isMade 46 = .ok (.aload_n 0, 1) := by decide +kernel
theorem dX11_isMade_47 : decode cX11_isMade 47 = .ok (.getfield 86, 3) := by decide +kernel
theorem dX11_isMade_50 : decode cX11_isMade 50 = .ok (.iload 5, 2) := by decide +kernel
theorem dX11_isMade_52 : decode cX11_isMade 52 = .ok (.iload 6, 2) := by decide +kernel
theorem dX11_isMade_54 : decode cX11_isMade 54 = .ok (.iadd, 1) := by decide +kernel
theorem dX11_isMade_55 : decode cX11_isMade 55 = .ok (.iaload, 1) := by decide +kernel
theorem dX11_isMade_56 : decode cX11_isMade 56 = .ok (.aload_n 2, 1) := by decide +kernel
theorem dX11_isMade_57 : decode cX11_isMade 57 = .ok (.iload_n 3, 1) := by decide +kernel
theorem dX11_isMade_58 : decode cX11_isMade 58 = .ok (.iload 6, 2) := by decide +kernel
theorem dX11_isMade_60 : decode cX11_isMade 60 = .ok (.iadd, 1) := by decide +kernel
theorem dX11_isMade_61 : decode cX11_isMade 61 = .ok (.iaload, 1) := by decide +kernel
theorem dX11_isMade_62 : decode cX11_isMade 62 = .ok (.if_icmp .eq 5, 3) := by decide +kernel
theorem dX11_isMade_65 : decode cX11_isMade 65 = .ok (.iconst 0, 1) := by decide +kernel
theorem dX11_isMade_66 : decode cX11_isMade 66 = .ok (.ireturn, 1) := by decide +kernel
theorem dX11_isMade_67 : decode cX11_isMade 67 = .ok (.iinc 6 1, 3) := by decide +kernel
theorem dX11_isMade_70 : decode cX11_isMade 70 = .ok (.goto (-31), 3) := by decide +kernel
theorem dX11_isMade_73 : decode cX11_isMade 73 = .ok (.iconst 1, 1) := by decide +kernel
theorem dX11_isMade_74 : decode cX11_isMade 74 = .ok (.ireturn, 1) := by decide +kernel
theorem dX11_takeOver_0 : decode cX11_takeOver 0 = .ok (.aload_n 0, 1) := by decide +kernel
theorem dX11_takeOver_1 : decode cX11_takeOver 1 = .ok (.getfield 89, 3) := by decide +kernel
theorem dX11_takeOver_4 : decode cX11_takeOver 4 = .ok (.iload_n 2, 1) := by decide +kernel
theorem dX11_takeOver_5 : decode cX11_takeOver 5 = .ok (.iaload, 1) := by decide +kernel
theorem dX11_takeOver_6 : decode cX11_takeOver 6 = .ok (.ifCond .ge 4, 3) := by decide +kernel
theorem dX11_takeOver_9 : decode cX11_takeOver 9 = .ok (.return_, 1) := by decide +kernel
theorem dX11_takeOver_10 : decode cX11_takeOver 10 = .ok (.aload_n 0, 1) := by decide +kernel
theorem dX11_takeOver_11 : decode cX11_takeOver 11 = .ok (.iload_n 1, 1) := by decide +kernel
theorem dX11_takeOver_12 : decode cX11_takeOver 12 = .ok (.aload_n 0, 1) := by decide +kernel
theorem dX11_takeOver_13 : decode cX11_takeOver 13 = .ok (.getfield 92, 3) := by decide +kernel
theorem dX11_takeOver_16 : decode cX11_takeOver 16 = .ok (.bipush 60, 2) := by decide +kernel
theorem dX11_takeOver_18 : decode cX11_takeOver 18 = .ok (.iload_n 2, 1) := by decide +kernel
theorem dX11_takeOver_19 : decode cX11_takeOver 19 = .ok (.imul, 1) := by decide +kernel
theorem dX11_takeOver_20 : decode cX11_takeOver 20 = .ok (.aload_n 0, 1) := by decide +kernel
theorem dX11_takeOver_21 : decode cX11_takeOver 21 = .ok (.getfield 89, 3) := by decide +kernel
theorem dX11_takeOver_24 : decode cX11_takeOver 24 = .ok (.iload_n 2, 1) := by decide +kernel
theorem dX11_takeOver_25 : decode cX11_takeOver 25 = .ok (.iaload, 1) := by decide +kernel
theorem dX11_takeOver_26 : decode cX11_takeOver 26 = .ok (.invokevirtual 229, 3) := by decide +kernel
theorem dX11_takeOver_29 : decode cX11_takeOver 29 = .ok (.ifCond .eq 4, 3) := by decide +kernel
theorem dX11_takeOver_32 : decode cX11_takeOver 32 = .ok (.return_, 1) := by decide +kernel
theorem dX11_takeOver_33 : decode cX11_takeOver 33 = .ok (.aload_n 0, 1) := by decide +kernel
theorem dX11_takeOver_34 : decode cX11_takeOver 34 = .ok (.getfield 89, 3) := by decide +kernel
theorem dX11_takeOver_37 : decode cX11_takeOver 37 = .ok (.iload_n 1, 1) := by decide +kernel
theorem dX11_takeOver_38 : decode cX11_takeOver 38 = .ok (.aload_n 0, 1) := by decide +kernel
theorem dX11_takeOver_39 : decode cX11_takeOver 39 = .ok (.getfield 89, 3) := by decide +kernel
theorem dX11_takeOver_42 : decode cX11_takeOver 42 = .ok (.iload_n 2, 1) := by decide +kernel
theorem dX11_takeOver_43 : decode cX11_takeOver 43 = .ok (.iaload, 1) := by decide +kernel
theorem dX11_takeOver_44 : decode cX11_takeOver 44 = .ok (.iastore, 1) := by decide +kernel
theorem dX11_takeOver_45 : decode cX11_takeOver 45 = .ok (.iconst 0, 1) := by decide +kernel
theorem dX11_takeOver_46 : decode cX11_takeOver 46 = .ok (.istore_n 3, 1) := by decide +kernel
theorem dX11_takeOver_47 : decode cX11_takeOver 47 = .ok (.iload_n 3, 1) := by decide +kernel
theorem dX11_takeOver_48 : decode cX11_takeOver 48 = .ok (.aload_n 0, 1) := by decide +kernel
theorem dX11_takeOver_49 : decode cX11_takeOver 49 = .ok (.getfield 89, 3) := by decide +kernel
theorem dX11_takeOver_52 : decode cX11_takeOver 52 = .ok (.iload_n 2, 1) := by decide +kernel
theorem dX11_takeOver_53 : decode cX11_takeOver 53 = .ok (.iaload, 1) := by decide +kernel
theorem dX11_takeOver_54 : decode cX11_takeOver 54 = .ok (.if_icmp .ge 31, 3) := by decide +kernel
theorem dX11_takeOver_57 : decode cX11_takeOver 57 = .ok (.aload_n 0, 1) := by decide +kernel
theorem dX11_takeOver_58 : decode cX11_takeOver 58 = .ok (.getfield 92, 3) := by decide +kernel
theorem dX11_takeOver_61 : decode cX11_takeOver 61 = .ok (.bipush 60, 2) := by decide +kernel
theorem dX11_takeOver_63 : decode cX11_takeOver 63 = .ok (.iload_n 1, 1) := by decide +kernel
theorem dX11_takeOver_64 : decode cX11_takeOver 64 = .ok (.imul, 1) := by decide +kernel
theorem dX11_takeOver_65 : decode cX11_takeOver 65 = .ok (.iload_n 3, 1) := by decide +kernel
theorem dX11_takeOver_66 : decode cX11_takeOver 66 = .ok (.iadd, 1) := by decide +kernel
theorem dX11_takeOver_67 : decode cX11_takeOver 67 = .ok (.aload_n 0, 1) := by decide +kernel
theorem dX11_takeOver_68 : decode cX11_takeOver 68 = .ok (.getfield 92, 3) := by decide +kernel
theorem dX11_takeOver_71 : decode cX11_takeOver 71 = .ok (.bipush 60, 2) := by decide +kernel
theorem dX11_takeOver_73 : decode cX11_takeOver 73 = .ok (.iload_n 2, 1) := by decide +kernel
theorem dX11_takeOver_74 : decode cX11_takeOver 74 = .ok (.imul, 1) := by decide +kernel
theorem dX11_takeOver_75 : decode cX11_takeOver 75 = .ok (.iload_n 3, 1) := by decide +kernel
theorem dX11_takeOver_76 : decode cX11_takeOver 76 = .ok (.iadd, 1) := by decide +kernel
theorem dX11_takeOver_77 : decode cX11_takeOver 77 = .ok (.iaload, 1) := by decide +kernel
theorem dX11_takeOver_78 : decode cX11_takeOver 78 = .ok (.iastore, 1) := by decide +kernel
theorem dX11_takeOver_79 : decode cX11_takeOver 79 = .ok (.iinc 3 1, 3) := by decide +kernel
theorem dX11_takeOver_82 : decode cX11_takeOver 82 = .ok (.goto (-35), 3) := by decide +kernel
theorem dX11_takeOver_85 : decode cX11_takeOver 85 = .ok (.aload_n 0, 1) := by decide +kernel
theorem dX11_takeOver_86 : decode cX11_takeOver 86 = .ok (.getfield 95, 3) := by decide +kernel
theorem dX11_takeOver_89 : decode cX11_takeOver 89 = .ok (.iload_n 1, 1) := by decide +kernel
theorem dX11_takeOver_90 : decode cX11_takeOver 90 = .ok (.aload_n 0, 1) := by decide +kernel
theorem dX11_takeOver_91 : decode cX11_takeOver 91 = .ok (.getfield 95, 3) := by decide +kernel
theorem dX11_takeOver_94 : decode cX11_takeOver 94 = .ok (.iload_n 2, 1) := by decide +kernel
theorem dX11_takeOver_95 : decode cX11_takeOver 95 = .ok (.iaload, 1) := by decide +kernel
theorem dX11_takeOver_96 : decode cX11_takeOver 96 = .ok (.iastore, 1) := by decide +kernel
theorem dX11_takeOver_97 : decode cX11_takeOver 97 = .ok (.iconst 0, 1) := by decide +kernel
theorem dX11_takeOver_98 : decode cX11_takeOver 98 = .ok (.istore_n 3, 1) := by decide +kernel
theorem dX11_takeOver_99 : decode cX11_takeOver 99 = .ok (.iload_n 3, 1) := by decide +kernel
theorem dX11_takeOver_100 : decode cX11_takeOver 100 = .ok (.aload_n 0, 1) := by decide +kernel
theorem dX11_takeOver_101 : decode cX11_takeOver 101 = .ok (.getfield 95, 3) := by decide +kernel
theorem dX11_takeOver_104 : decode cX11_takeOver 104 = .ok (.iload_n 2, 1) := by decide +kernel
theorem dX11_takeOver_105 : decode cX11_takeOver 105 = .ok (.iaload, 1) := by decide +kernel
theorem dX11_takeOver_106 : decode cX11_takeOver 106 = .ok (.if_icmp .ge 31, 3) := by decide +kernel
theorem dX11_takeOver_109 : decode cX11_takeOver 109 = .ok (.aload_n 0, 1) := by decide +kernel
theorem dX11_takeOver_110 : decode cX11_takeOver 110 = .ok (.getfield 99, 3) := by decide +kernel
theorem dX11_takeOver_113 : decode cX11_takeOver 113 = .ok (.bipush 120, 2) := by decide +kernel
theorem dX11_takeOver_115 : decode cX11_takeOver 115 = .ok (.iload_n 1, 1) := by decide +kernel
theorem dX11_takeOver_116 : decode cX11_takeOver 116 = .ok (.imul, 1) := by decide +kernel
theorem dX11_takeOver_117 : decode cX11_takeOver 117 = .ok (.iload_n 3, 1) := by decide +kernel
theorem dX11_takeOver_118 : decode cX11_takeOver 118 = .ok (.iadd, 1) := by decide +kernel
theorem dX11_takeOver_119 : decode cX11_takeOver 119 = .ok (.aload_n 0, 1) := by decide +kernel
theorem dX11_takeOver_120 : decode cX11_takeOver 120 = .ok (.getfield 99, 3) := by decide +kernel
theorem dX11_takeOver_123 : decode cX11_takeOver 123 = .ok (.bipush 120, 2) := by decide +kernel
theorem dX11_takeOver_125 : decode cX11_takeOver 125 = .ok (.iload_n 2, 1) := by decide +kernel
theorem dX11_takeOver_126 : decode cX11_takeOver 126 = .ok (.imul, 1) := by decide +kernel
theorem dX11_takeOver_127 : decode cX11_takeOver 127 = .ok (.iload_n 3, 1) := by decide +kernel
theorem dX11_takeOver_128 : decode cX11_takeOver 128 = .ok (.iadd, 1) := by decide +kernel
theorem dX11_takeOver_129 : decode cX11_takeOver 129 = .ok (.iaload, 1) := by decide +kernel
theorem dX11_takeOver_130 : decode cX11_takeOver 130 = .ok (.iastore, 1) := by decide +kernel
theorem dX11_takeOver_131 : decode cX11_takeOver 131 = .ok (.iinc 3 1, 3) := by decide +kernel
theorem dX11_takeOver_134 : decode cX11_takeOver 134 = .ok (.goto (-35), 3) := by decide +kernel
theorem dX11_takeOver_137 : decode cX11_takeOver 137 = .ok (.aload_n 0, 1) := by decide +kernel
theorem dX11_takeOver_138 : decode cX11_takeOver 138 = .ok (.getfield 102, 3) := by decide +kernel
theorem dX11_takeOver_141 : decode cX11_takeOver 141 = .ok (.iload_n 1, 1) := by decide +kernel
theorem dX11_takeOver_142 : decode cX11_takeOver 142 = .ok (.aload_n 0, 1) := by decide +kernel
theorem dX11_takeOver_143 : decode cX11_takeOver 143 = .ok (.iload_n 1, 1) := by decide +kernel
theorem dX11_takeOver_144 : decode cX11_takeOver 144 = .ok (.aload_n 0, 1) := by decide +kernel
theorem dX11_takeOver_145 : decode cX11_takeOver 145 = .ok (.getfield 99, 3) := by decide +kernel
theorem dX11_takeOver_148 : decode cX11_takeOver 148 = .ok (.bipush 120, 2) := by decide +kernel
theorem dX11_takeOver_150 : decode cX11_takeOver 150 = .ok (.iload_n 2, 1) := by decide +kernel
theorem dX11_takeOver_151 : decode cX11_takeOver 151 = .ok (.imul, 1) := by decide +kernel
theorem dX11_takeOver_152 : decode cX11_takeOver 152 = .ok (.aload_n 0, 1) := by decide +kernel
theorem dX11_takeOver_153 : decode cX11_takeOver 153 = .ok (.getfield 95, 3) := by decide +kernel
theorem dX11_takeOver_156 : decode cX11_takeOver 156 = .ok (.iload_n 2, 1) := by decide +kernel
theorem dX11_takeOver_157 : decode cX11_takeOver 157 = .ok (.iaload, 1) := by decide +kernel
theorem dX11_takeOver_158 : decode cX11_takeOver 158 = .ok (.invokevirtual 229, 3) := by decide +kernel
theorem dX11_takeOver_161 : decode cX11_takeOver 161 = .ok (.ifCond .ne 7, 3) := by decide +kernel
theorem dX11_takeOver_164 : decode cX11_takeOver 164 = .ok (.iconst 1, 1) := by decide +kernel
theorem dX11_takeOver_165 : decode cX11_takeOver 165 = .ok (.goto 4, 3) := by decide +kernel
theorem dX11_takeOver_168 : decode cX11_takeOver 168 = .ok (.iconst 0, 1) := by decide +kernel
theorem dX11_takeOver_169 : decode cX11_takeOver 169 = .ok (.bastore, 1) := by decide +kernel
theorem dX11_takeOver_170 : decode cX11_takeOver 170 = .ok (.return_, 1) := by decide +kernel
theorem dX11_takeAll_0 : decode cX11_takeAll 0 = .ok (.iconst 0, 1) := by decide +kernel
theorem dX11_takeAll_1 : decode cX11_takeAll 1 = .ok (.istore_n 1, 1) := by decide +kernel
theorem dX11_takeAll_2 : decode cX11_takeAll 2 = .ok (.iconst 0, 1) := by decide +kernel
theorem dX11_takeAll_3 : decode cX11_takeAll 3 = .ok (.istore_n 2, 1) := by decide +kernel
theorem dX11_takeAll_4 : decode cX11_takeAll 4 = .ok (.iload_n 2, 1) := by decide +kernel
theorem dX11_takeAll_5 : decode cX11_takeAll 5 = .ok (.aload_n 0, 1) := by decide +kernel
theorem dX11_takeAll_6 : decode cX11_takeAll 6 = .ok (.getfield 56, 3) := by decide +kernel
theorem dX11_takeAll_9 : decode cX11_takeAll 9 = .ok (.iconst 0, 1) := by decide +kernel
theorem dX11_takeAll_10 : decode cX11_takeAll 10 = .ok (.iaload, 1) := by decide +kernel
theorem dX11_takeAll_11 : decode cX11_takeAll 11 = .ok (.if_icmp .ge 53, 3) := by decide +kernel
theorem dX11_takeAll_14 : decode cX11_takeAll 14 = .ok (.aload_n 0, 1) := by decide +kernel
theorem dX11_takeAll_15 : decode cX11_takeAll 15 = .ok (.sipush 250, 3) := by decide +kernel
theorem dX11_takeAll_18 : decode cX11_takeAll 18 = .ok (.sipush 250, 3) := by decide +kernel
theorem dX11_takeAll_21 : decode cX11_takeAll 21 = .ok (.aload_n 0, 1) := by decide +kernel
theorem dX11_takeAll_22 : decode cX11_takeAll 22 = .ok (.getfield 56, 3) := by decide +kernel
theorem dX11_takeAll_25 : decode cX11_takeAll 25 = .ok (.iconst 1, 1) := by decide +kernel
theorem dX11_takeAll_26 : decode cX11_takeAll 26 = .ok (.iaload, 1) := by decide +kernel
theorem dX11_takeAll_27 : decode cX11_takeAll 27 = .ok (.iadd, 1) := by decide +kernel
theorem dX11_takeAll_28 : decode cX11_takeAll 28 = .ok (.iload_n 2, 1) := by decide +kernel
theorem dX11_takeAll_29 : decode cX11_takeAll 29 = .ok (.invokevirtual 233, 3) := by decide +kernel
theorem dX11_takeAll_32 : decode cX11_takeAll 32 = .ok (.istore_n 3, 1) := by decide +kernel
theorem dX11_takeAll_33 : decode cX11_takeAll 33 = .ok (.iload_n 3, 1) := by decide +kernel
theorem dX11_takeAll_34 : decode cX11_takeAll 34 = .ok (.ifCond .lt 12, 3) := by decide +kernel
theorem dX11_takeAll_37 : decode cX11_takeAll 37 = .ok (.aload_n 0, 1) := by decide +kernel
theorem dX11_takeAll_38 : decode cX11_takeAll 38 = .ok (.iload_n 3, 1) := by decide +kernel
theorem dX11_takeAll_39 : decode cX11_takeAll 39 = .ok (.iload_n 2, 1) := by decide +kernel
theorem dX11_takeAll_40 : decode cX11_takeAll 40 = .ok (.invokevirtual 236, 3) := by decide +kernel
theorem dX11_takeAll_43 : decode cX11_takeAll 43 = .ok (.goto 15, 3) := by decide +kernel
theorem dX11_takeAll_46 : decode cX11_takeAll 46 = .ok (.aload_n 0, 1) := by decide +kernel
theorem dX11_takeAll_47 : decode cX11_takeAll 47 = .ok (.getfield 89, 3) := by decide +kernel
theorem dX11_takeAll_50 : decode cX11_takeAll 50 = .ok (.iload_n 2, 1) := by decide +kernel
theorem dX11_takeAll_51 : decode cX11_takeAll 51 = .ok (.iaload, 1) := by decide +kernel
theorem dX11_takeAll_52 : decode cX11_takeAll 52 = .ok (.ifCond .lt 6, 3) := by decide +kernel
theorem dX11_takeAll_55 : decode cX11_takeAll 55 = .ok (.iinc 1 1, 3) := by decide +kernel
theorem dX11_takeAll_58 : decode cX11_takeAll 58 = .ok (.iinc 2 1, 3) := by decide +kernel
theorem dX11_takeAll_61 : decode cX11_takeAll 61 = .ok (.goto (-57), 3) := by decide +kernel
theorem dX11_takeAll_64 : decode cX11_takeAll 64 = .ok (.iload_n 1, 1) := by decide +kernel
theorem dX11_takeAll_65 : decode cX11_takeAll 65 = .ok (.ireturn, 1) := by decide +kernel
theorem dX11_dropLone_0 : decode cX11_dropLone 0 = .ok (.iload_n 1, 1) := by decide +kernel
theorem dX11_dropLone_1 : decode cX11_dropLone 1 = .ok (.istore_n 2, 1) := by decide +kernel
theorem dX11_dropLone_2 : decode cX11_dropLone 2 = .ok (.iload_n 2, 1) := by decide +kernel
theorem dX11_dropLone_3 : decode cX11_dropLone 3 = .ok (.aload_n 0, 1) := by decide +kernel
theorem dX11_dropLone_4 : decode cX11_dropLone 4 = .ok (.getfield 239, 3) := by decide +kernel
theorem dX11_dropLone_7 : decode cX11_dropLone 7 = .ok (.iconst 1, 1) := by decide +kernel
theorem dX11_dropLone_8 : decode cX11_dropLone 8 = .ok (.isub, 1) := by decide +kernel
theorem dX11_dropLone_9 : decode cX11_dropLone 9 = .ok (.if_icmp .ge 89, 3) := by decide +kernel
theorem dX11_dropLone_12 : decode cX11_dropLone 12 = .ok (.aload_n 0, 1) := by decide +kernel
theorem dX11_dropLone_13 : decode cX11_dropLone 13 = .ok (.getfield 118, 3) := by decide +kernel
theorem dX11_dropLone_16 : decode cX11_dropLone 16 = .ok (.iload_n 2, 1) := by decide +kernel
theorem dX11_dropLone_17 : decode cX11_dropLone 17 = .ok (.aload_n 0, 1) := by decide +kernel
theorem dX11_dropLone_18 : decode cX11_dropLone 18 = .ok (.getfield 118, 3) := by decide +kernel
theorem dX11_dropLone_21 : decode cX11_dropLone 21 = .ok (.iload_n 2, 1) := by decide +kernel
theorem dX11_dropLone_22 : decode cX11_dropLone 22 = .ok (.iconst 1, 1) := by decide +kernel
theorem dX11_dropLone_23 : decode cX11_dropLone 23 = .ok (.iadd, 1) := by decide +kernel
theorem dX11_dropLone_24 : decode cX11_dropLone 24 = .ok (.iaload, 1) := by decide +kernel
theorem dX11_dropLone_25 : decode cX11_dropLone 25 = .ok (.iastore, 1) := by decide +kernel
theorem dX11_dropLone_26 : decode cX11_dropLone 26 = .ok (.aload_n 0, 1) := by decide +kernel
theorem dX11_dropLone_27 : decode cX11_dropLone 27 = .ok (.getfield 121, 3) := by decide +kernel
theorem dX11_dropLone_30 : decode cX11_dropLone 30 = .ok (.iload_n 2, 1) := by decide +kernel
theorem dX11_dropLone_31 : decode cX11_dropLone 31 = .ok (.aload_n 0, 1) := by decide +kernel
theorem dX11_dropLone_32 : decode cX11_dropLone 32 = .ok (.getfield 121, 3) := by decide +kernel
theorem dX11_dropLone_35 : decode cX11_dropLone 35 = .ok (.iload_n 2, 1) := by decide +kernel
theorem dX11_dropLone_36 : decode cX11_dropLone 36 = .ok (.iconst 1, 1) := by decide +kernel
theorem dX11_dropLone_37 : decode cX11_dropLone 37 = .ok (.iadd, 1) := by decide +kernel
theorem dX11_dropLone_38 : decode cX11_dropLone 38 = .ok (.iaload, 1) := by decide +kernel
theorem dX11_dropLone_39 : decode cX11_dropLone 39 = .ok (.iastore, 1) := by decide +kernel
theorem dX11_dropLone_40 : decode cX11_dropLone 40 = .ok (.aload_n 0, 1) := by decide +kernel
theorem dX11_dropLone_41 : decode cX11_dropLone 41 = .ok (.getfield 124, 3) := by decide +kernel
theorem dX11_dropLone_44 : decode cX11_dropLone 44 = .ok (.iload_n 2, 1) := by decide +kernel
theorem dX11_dropLone_45 : decode cX11_dropLone 45 = .ok (.aload_n 0, 1) := by decide +kernel
theorem dX11_dropLone_46 : decode cX11_dropLone 46 = .ok (.getfield 124, 3) := by decide +kernel
theorem dX11_dropLone_49 : decode cX11_dropLone 49 = .ok (.iload_n 2, 1) := by decide +kernel
theorem dX11_dropLone_50 : decode cX11_dropLone 50 = .ok (.iconst 1, 1) := by decide +kernel
theorem dX11_dropLone_51 : decode cX11_dropLone 51 = .ok (.iadd, 1) := by decide +kernel
theorem dX11_dropLone_52 : decode cX11_dropLone 52 = .ok (.iaload, 1) := by decide +kernel
theorem dX11_dropLone_53 : decode cX11_dropLone 53 = .ok (.iastore, 1) := by decide +kernel
theorem dX11_dropLone_54 : decode cX11_dropLone 54 = .ok (.iconst 0, 1) := by decide +kernel
theorem dX11_dropLone_55 : decode cX11_dropLone 55 = .ok (.istore_n 3, 1) := by decide +kernel
theorem dX11_dropLone_56 : decode cX11_dropLone 56 = .ok (.iload_n 3, 1) := by decide +kernel
theorem dX11_dropLone_57 : decode cX11_dropLone 57 = .ok (.bipush 60, 2) := by decide +kernel
theorem dX11_dropLone_59 : decode cX11_dropLone 59 = .ok (.if_icmp .ge 33, 3) := by decide +kernel
theorem dX11_dropLone_62 : decode cX11_dropLone 62 = .ok (.aload_n 0, 1) := by decide +kernel
theorem dX11_dropLone_63 : decode cX11_dropLone 63 = .ok (.getfield 127, 3) := by decide +kernel
theorem dX11_dropLone_66 : decode cX11_dropLone 66 = .ok (.bipush 60, 2) := by decide +kernel
theorem dX11_dropLone_68 : decode cX11_dropLone 68 = .ok (.iload_n 2, 1) := by decide +kernel
theorem dX11_dropLone_69 : decode cX11_dropLone 69 = .ok (.imul, 1) := by decide +kernel
theorem dX11_dropLone_70 : decode cX11_dropLone 70 = .ok (.iload_n 3, 1) := by decide +kernel
theorem dX11_dropLone_71 : decode cX11_dropLone 71 = .ok (.iadd, 1) := by decide +kernel
theorem dX11_dropLone_72 : decode cX11_dropLone 72 = .ok (.aload_n 0, 1) := by decide +kernel
theorem dX11_dropLone_73 : decode cX11_dropLone 73 = .ok (.getfield 127, 3) := by decide +kernel
theorem dX11_dropLone_76 : decode cX11_dropLone 76 = .ok (.bipush 60, 2) := by decide +kernel
theorem dX11_dropLone_78 : decode cX11_dropLone 78 = .ok (.iload_n 2, 1) := by decide +kernel
theorem dX11_dropLone_79 : decode cX11_dropLone 79 = .ok (.iconst 1, 1) := by decide +kernel
theorem dX11_dropLone_80 : decode cX11_dropLone 80 = .ok (.iadd, 1) := by decide +kernel
theorem dX11_dropLone_81 : decode cX11_dropLone 81 = .ok (.imul, 1) := by decide +kernel
theorem dX11_dropLone_82 : decode cX11_dropLone 82 = .ok (.iload_n 3, 1) := by decide +kernel
theorem dX11_dropLone_83 : decode cX11_dropLone 83 = .ok (.iadd, 1) := by decide +kernel
theorem dX11_dropLone_84 : decode cX11_dropLone 84 = .ok (.iaload, 1) := by decide +kernel
theorem dX11_dropLone_85 : decode cX11_dropLone 85 = .ok (.iastore, 1) := by decide +kernel
theorem dX11_dropLone_86 : decode cX11_dropLone 86 = .ok (.iinc 3 1, 3) := by decide +kernel
theorem dX11_dropLone_89 : decode cX11_dropLone 89 = .ok (.goto (-33), 3) := by decide +kernel
theorem dX11_dropLone_92 : decode cX11_dropLone 92 = .ok (.iinc 2 1, 3) := by decide +kernel
theorem dX11_dropLone_95 : decode cX11_dropLone 95 = .ok (.goto (-93), 3) := by decide +kernel
theorem dX11_dropLone_98 : decode cX11_dropLone 98 = .ok (.aload_n 0, 1) := by decide +kernel
theorem dX11_dropLone_99 : decode cX11_dropLone 99 = .ok (.dup, 1) := by decide +kernel
theorem dX11_dropLone_100 : decode cX11_dropLone 100 = .ok (.getfield 239, 3) := by decide +kernel
theorem dX11_dropLone_103 : decode cX11_dropLone 103 = .ok (.iconst 1, 1) := by decide +kernel
theorem dX11_dropLone_104 : decode cX11_dropLone 104 = .ok (.isub, 1) := by decide +kernel
theorem dX11_dropLone_105 : decode cX11_dropLone 105 = .ok (.putfield 239, 3) := by decide +kernel
theorem dX11_dropLone_108 : decode cX11_dropLone 108 = .ok (.return_, 1) := by decide +kernel
theorem dX11_keepLone_0 : decode cX11_keepLone 0 = .ok (.aload_n 0, 1) := by decide +kernel
theorem dX11_keepLone_1 : decode cX11_keepLone 1 = .ok (.getfield 239, 3) := by decide +kernel
theorem dX11_keepLone_4 : decode cX11_keepLone 4 = .ok (.bipush 30, 2) := by decide +kernel
theorem dX11_keepLone_6 : decode cX11_keepLone 6 = .ok (.if_icmp .ne 18, 3) := by decide +kernel
theorem dX11_keepLone_9 : decode cX11_keepLone 9 = .ok (.aload_n 0, 1) := by decide +kernel
theorem dX11_keepLone_10 : decode cX11_keepLone 10 = .ok (.iconst 0, 1) := by decide +kernel
theorem dX11_keepLone_11 : decode cX11_keepLone 11 = .ok (.invokevirtual 242, 3) := by decide +kernel
theorem dX11_keepLone_14 : decode cX11_keepLone 14 = .ok (.aload_n 0, 1) := by decide +kernel
theorem dX11_keepLone_15 : decode cX11_keepLone 15 = .ok (.dup, 1) := by decide +kernel
theorem dX11_keepLone_16 : decode cX11_keepLone 16 = .ok (.getfield 245, 3) := by decide +kernel
theorem dX11_keepLone_19 : decode cX11_keepLone 19 = .ok (.iconst 1, 1) := by decide +kernel
theorem dX11_keepLone_20 : decode cX11_keepLone 20 = .ok (.iadd, 1) := by decide +kernel
theorem dX11_keepLone_21 : decode cX11_keepLone 21 = .ok (.putfield 245, 3) := by decide +kernel
theorem dX11_keepLone_24 : decode cX11_keepLone 24 = .ok (.aload_n 0, 1) := by decide +kernel
theorem dX11_keepLone_25 : decode cX11_keepLone 25 = .ok (.getfield 118, 3) := by decide +kernel
theorem dX11_keepLone_28 : decode cX11_keepLone 28 = .ok (.aload_n 0, 1) := by decide +kernel
theorem dX11_keepLone_29 : decode cX11_keepLone 29 = .ok (.getfield 239, 3) := by decide +kernel
theorem dX11_keepLone_32 : decode cX11_keepLone 32 = .ok (.aload_n 0, 1) := by decide +kernel
theorem dX11_keepLone_33 : decode cX11_keepLone 33 = .ok (.getfield 62, 3) := by decide +kernel
theorem dX11_keepLone_36 : decode cX11_keepLone 36 = .ok (.iload_n 1, 1) := by decide +kernel
theorem dX11_keepLone_37 : decode cX11_keepLone 37 = .ok (.iaload, 1) := by decide +kernel
theorem dX11_keepLone_38 : decode cX11_keepLone 38 = .ok (.iastore, 1) := by decide +kernel
theorem dX11_keepLone_39 : decode cX11_keepLone 39 = .ok (.aload_n 0, 1) := by decide +kernel
theorem dX11_keepLone_40 : decode cX11_keepLone 40 = .ok (.getfield 121, 3) := by decide +kernel
theorem dX11_keepLone_43 : decode cX11_keepLone 43 = .ok (.aload_n 0, 1) := by decide +kernel
theorem dX11_keepLone_44 : decode cX11_keepLone 44 = .ok (.getfield 239, 3) := by decide +kernel
theorem dX11_keepLone_47 : decode cX11_keepLone 47 = .ok (.aload_n 0, 1) := by decide +kernel
theorem dX11_keepLone_48 : decode cX11_keepLone 48 = .ok (.getfield 59, 3) := by decide +kernel
theorem dX11_keepLone_51 : decode cX11_keepLone 51 = .ok (.iload_n 1, 1) := by decide +kernel
theorem dX11_keepLone_52 : decode cX11_keepLone 52 = .ok (.iaload, 1) := by decide +kernel
theorem dX11_keepLone_53 : decode cX11_keepLone 53 = .ok (.iastore, 1) := by decide +kernel
theorem dX11_keepLone_54 : decode cX11_keepLone 54 = .ok (.aload_n 0, 1) := by decide +kernel
theorem dX11_keepLone_55 : decode cX11_keepLone 55 = .ok (.getfield 124, 3) := by decide +kernel
theorem dX11_keepLone_58 : decode cX11_keepLone 58 = .ok (.aload_n 0, 1) := by decide +kernel
theorem dX11_keepLone_59 : decode cX11_keepLone 59 = .ok (.getfield 239, 3) := by decide +kernel
theorem dX11_keepLone_62 : decode cX11_keepLone 62 = .ok (.aload_n 0, 1) := by decide +kernel
theorem dX11_keepLone_63 : decode cX11_keepLone 63 = .ok (.getfield 89, 3) := by decide +kernel
theorem dX11_keepLone_66 : decode cX11_keepLone 66 = .ok (.iload_n 1, 1) := by decide +kernel
theorem dX11_keepLone_67 : decode cX11_keepLone 67 = .ok (.iaload, 1) := by decide +kernel
theorem dX11_keepLone_68 : decode cX11_keepLone 68 = .ok (.iastore, 1) := by decide +kernel
theorem dX11_keepLone_69 : decode cX11_keepLone 69 = .ok (.iconst 0, 1) := by decide +kernel
theorem dX11_keepLone_70 : decode cX11_keepLone 70 = .ok (.istore_n 2, 1) := by decide +kernel
theorem dX11_keepLone_71 : decode cX11_keepLone 71 = .ok (.iload_n 2, 1) := by decide +kernel
theorem dX11_keepLone_72 : decode cX11_keepLone 72 = .ok (.aload_n 0, 1) := by decide +kernel
theorem dX11_keepLone_73 : decode cX11_keepLone 73 = .ok (.getfield 89, 3) := by decide +kernel
theorem dX11_keepLone_76 : decode cX11_keepLone 76 = .ok (.iload_n 1, 1) := by decide +kernel
theorem dX11_keepLone_77 : decode cX11_keepLone 77 = .ok (.iaload, 1) := by decide +kernel
theorem dX11_keepLone_78 : decode cX11_keepLone 78 = .ok (.if_icmp .ge 34, 3) := by decide +kernel
theorem dX11_keepLone_81 : decode cX11_keepLone 81 = .ok (.aload_n 0, 1) := by decide +kernel
theorem dX11_keepLone_82 : decode cX11_keepLone 82 = .ok (.getfield 127, 3) := by decide +kernel
theorem dX11_keepLone_85 : decode cX11_keepLone 85 = .ok (.bipush 60, 2) := by decide +kernel
theorem dX11_keepLone_87 : decode cX11_keepLone 87 = .ok (.aload_n 0, 1) := by decide +kernel
theorem dX11_keepLone_88 : decode cX11_keepLone 88 = .ok (.getfield 239, 3) := by decide +kernel
theorem dX11_keepLone_91 : decode cX11_keepLone 91 = .ok (.imul, 1) := by decide +kernel
theorem dX11_keepLone_92 : decode cX11_keepLone 92 = .ok (.iload_n 2, 1) := by decide +kernel
theorem dX11_keepLone_93 : decode cX11_keepLone 93 = .ok (.iadd, 1) := by decide +kernel
theorem dX11_keepLone_94 : decode cX11_keepLone 94 = .ok (.aload_n 0, 1) := by decide +kernel
theorem dX11_keepLone_95 : decode cX11_keepLone 95 = .ok (.getfield 92, 3) := by decide +kernel
theorem dX11_keepLone_98 : decode cX11_keepLone 98 = .ok (.bipush 60, 2) := by decide +kernel
theorem dX11_keepLone_100 : decode cX11_keepLone 100 = .ok (.iload_n 1, 1) := by decide +kernel
theorem dX11_keepLone_101 : decode cX11_keepLone 101 = .ok (.imul, 1) := by decide +kernel
theorem dX11_keepLone_102 : decode cX11_keepLone 102 = .ok (.iload_n 2, 1) := by decide +kernel
theorem dX11_keepLone_103 : decode cX11_keepLone 103 = .ok (.iadd, 1) := by decide +kernel
theorem dX11_keepLone_104 : decode cX11_keepLone 104 = .ok (.iaload, 1) := by decide +kernel
theorem dX11_keepLone_105 : decode cX11_keepLone 105 = .ok (.iastore, 1) := by decide +kernel
theorem dX11_keepLone_106 : decode cX11_keepLone 106 = .ok (.iinc 2 1, 3) := by decide +kernel
theorem dX11_keepLone_109 : decode cX11_keepLone 109 = .ok (.goto (-38), 3) := by decide +kernel
theorem dX11_keepLone_112 : decode cX11_keepLone 112 = .ok (.aload_n 0, 1) := by decide +kernel
theorem dX11_keepLone_113 : decode cX11_keepLone 113 = .ok (.dup, 1) := by decide +kernel
theorem dX11_keepLone_114 : decode cX11_keepLone 114 = .ok (.getfield 239, 3) := by decide +kernel
theorem dX11_keepLone_117 : decode cX11_keepLone 117 = .ok (.iconst 1, 1) := by decide +kernel
theorem dX11_keepLone_118 : decode cX11_keepLone 118 = .ok (.iadd, 1) := by decide +kernel
theorem dX11_keepLone_119 : decode cX11_keepLone 119 = .ok (.putfield 239, 3) := by decide +kernel
theorem dX11_keepLone_122 : decode cX11_keepLone 122 = .ok (.return_, 1) := by decide +kernel
theorem dX11_turn_0 : decode cX11_turn 0 = .ok (.aload_n 0, 1) := by decide +kernel
theorem dX11_turn_1 : decode cX11_turn 1 = .ok (.invokevirtual 248, 3) := by decide +kernel
theorem dX11_turn_4 : decode cX11_turn 4 = .ok (.pop, 1) := by decide +kernel
theorem dX11_turn_5 : decode cX11_turn 5 = .ok (.iconst 0, 1) := by decide +kernel
theorem dX11_turn_6 : decode cX11_turn 6 = .ok (.istore_n 1, 1) := by decide +kernel
theorem dX11_turn_7 : decode cX11_turn 7 = .ok (.iload_n 1, 1) := by decide +kernel
theorem dX11_turn_8 : decode cX11_turn 8 = .ok (.aload_n 0, 1) := by decide +kernel
theorem dX11_turn_9 : decode cX11_turn 9 = .ok (.getfield 56, 3) := by decide +kernel
theorem dX11_turn_12 : decode cX11_turn 12 = .ok (.iconst 0, 1) := by decide +kernel
theorem dX11_turn_13 : decode cX11_turn 13 = .ok (.iaload, 1) := by decide +kernel
theorem dX11_turn_14 : decode cX11_turn 14 = .ok (.if_icmp .ge 44, 3) := by decide +kernel
end
section
theorem dX11_turn_17 : decode cX11_turn 17 = .ok (.aload_n 0, 1) := by decide +kernel
theorem dX11_turn_18 : decode cX11_turn 18 = .ok (.getfield 89, 3) := by decide +kernel
theorem dX11_turn_21 : decode cX11_turn 21 = .ok (.iload_n 1, 1) := by decide +kernel
theorem dX11_turn_22 : decode cX11_turn 22 = .ok (.iaload, 1) := by decide +kernel
theorem dX11_turn_23 : decode cX11_turn 23 = .ok (.ifCond .lt 29, 3) := by decide +kernel
theorem dX11_turn_26 : decode cX11_turn 26 = .ok (.aload_n 0, 1) := by decide +kernel
theorem dX11_turn_27 : decode cX11_turn 27 = .ok (.sipush 250, 3) := by decide +kernel
theorem dX11_turn_30 : decode cX11_turn 30 = .ok (.sipush 250, 3) := by decide +kernel
theorem dX11_turn_33 : decode cX11_turn 33 = .ok (.aload_n 0, 1) := by decide +kernel
theorem dX11_turn_34 : decode cX11_turn 34 = .ok (.getfield 56, 3) := by decide +kernel
theorem dX11_turn_37 : decode cX11_turn 37 = .ok (.iconst 1, 1) := by decide +kernel
theorem dX11_turn_38 : decode cX11_turn 38 = .ok (.iaload, 1) := by decide +kernel
theorem dX11_turn_39 : decode cX11_turn 39 = .ok (.iadd, 1) := by decide +kernel
theorem dX11_turn_40 : decode cX11_turn 40 = .ok (.iload_n 1, 1) := by decide +kernel
theorem dX11_turn_41 : decode cX11_turn 41 = .ok (.invokevirtual 233, 3) := by decide +kernel
theorem dX11_turn_44 : decode cX11_turn 44 = .ok (.ifCond .ge 8, 3) := by decide +kernel
theorem dX11_turn_47 : decode cX11_turn 47 = .ok (.aload_n 0, 1) := by decide +kernel
theorem dX11_turn_48 : decode cX11_turn 48 = .ok (.iload_n 1, 1) := by decide +kernel
theorem dX11_turn_49 : decode cX11_turn 49 = .ok (.invokevirtual 251, 3) := by decide +kernel
theorem dX11_turn_52 : decode cX11_turn 52 = .ok (.iinc 1 1, 3) := by decide +kernel
theorem dX11_turn_55 : decode cX11_turn 55 = .ok (.goto (-48), 3) := by decide +kernel
theorem dX11_turn_58 : decode cX11_turn 58 = .ok (.aload_n 0, 1) := by decide +kernel
theorem dX11_turn_59 : decode cX11_turn 59 = .ok (.getfield 56, 3) := by decide +kernel
theorem dX11_turn_62 : decode cX11_turn 62 = .ok (.iconst 0, 1) := by decide +kernel
theorem dX11_turn_63 : decode cX11_turn 63 = .ok (.aload_n 0, 1) := by decide +kernel
theorem dX11_turn_64 : decode cX11_turn 64 = .ok (.getfield 56, 3) := by decide +kernel
theorem dX11_turn_67 : decode cX11_turn 67 = .ok (.iconst 1, 1) := by decide +kernel
theorem dX11_turn_68 : decode cX11_turn 68 = .ok (.iaload, 1) := by decide +kernel
theorem dX11_turn_69 : decode cX11_turn 69 = .ok (.iastore, 1) := by decide +kernel
theorem dX11_turn_70 : decode cX11_turn 70 = .ok (.iconst 0, 1) := by decide +kernel
theorem dX11_turn_71 : decode cX11_turn 71 = .ok (.istore_n 1, 1) := by decide +kernel
theorem dX11_turn_72 : decode cX11_turn 72 = .ok (.iload_n 1, 1) := by decide +kernel
theorem dX11_turn_73 : decode cX11_turn 73 = .ok (.aload_n 0, 1) := by decide +kernel
theorem dX11_turn_74 : decode cX11_turn 74 = .ok (.getfield 56, 3) := by decide +kernel
theorem dX11_turn_77 : decode cX11_turn 77 = .ok (.iconst 0, 1) := by decide +kernel
theorem dX11_turn_78 : decode cX11_turn 78 = .ok (.iaload, 1) := by decide +kernel
theorem dX11_turn_79 : decode cX11_turn 79 = .ok (.if_icmp .ge 19, 3) := by decide +kernel
theorem dX11_turn_82 : decode cX11_turn 82 = .ok (.aload_n 0, 1) := by decide +kernel
theorem dX11_turn_83 : decode cX11_turn 83 = .ok (.sipush 250, 3) := by decide +kernel
theorem dX11_turn_86 : decode cX11_turn 86 = .ok (.iload_n 1, 1) := by decide +kernel
theorem dX11_turn_87 : decode cX11_turn 87 = .ok (.iadd, 1) := by decide +kernel
theorem dX11_turn_88 : decode cX11_turn 88 = .ok (.iload_n 1, 1) := by decide +kernel
theorem dX11_turn_89 : decode cX11_turn 89 = .ok (.invokevirtual 254, 3) := by decide +kernel
theorem dX11_turn_92 : decode cX11_turn 92 = .ok (.iinc 1 1, 3) := by decide +kernel
theorem dX11_turn_95 : decode cX11_turn 95 = .ok (.goto (-23), 3) := by decide +kernel
theorem dX11_turn_98 : decode cX11_turn 98 = .ok (.iconst 0, 1) := by decide +kernel
theorem dX11_turn_99 : decode cX11_turn 99 = .ok (.istore_n 1, 1) := by decide +kernel
theorem dX11_turn_100 : decode cX11_turn 100 = .ok (.iload_n 1, 1) := by decide +kernel
theorem dX11_turn_101 : decode cX11_turn 101 = .ok (.aload_n 0, 1) := by decide +kernel
theorem dX11_turn_102 : decode cX11_turn 102 = .ok (.getfield 203, 3) := by decide +kernel
theorem dX11_turn_105 : decode cX11_turn 105 = .ok (.if_icmp .ge 25, 3) := by decide +kernel
theorem dX11_turn_108 : decode cX11_turn 108 = .ok (.aload_n 0, 1) := by decide +kernel
theorem dX11_turn_109 : decode cX11_turn 109 = .ok (.getfield 86, 3) := by decide +kernel
theorem dX11_turn_112 : decode cX11_turn 112 = .ok (.iload_n 1, 1) := by decide +kernel
theorem dX11_turn_113 : decode cX11_turn 113 = .ok (.aload_n 0, 1) := by decide +kernel
theorem dX11_turn_114 : decode cX11_turn 114 = .ok (.getfield 86, 3) := by decide +kernel
theorem dX11_turn_117 : decode cX11_turn 117 = .ok (.sipush 3000, 3) := by decide +kernel
theorem dX11_turn_120 : decode cX11_turn 120 = .ok (.iload_n 1, 1) := by decide +kernel
theorem dX11_turn_121 : decode cX11_turn 121 = .ok (.iadd, 1) := by decide +kernel
theorem dX11_turn_122 : decode cX11_turn 122 = .ok (.iaload, 1) := by decide +kernel
theorem dX11_turn_123 : decode cX11_turn 123 = .ok (.iastore, 1) := by decide +kernel
theorem dX11_turn_124 : decode cX11_turn 124 = .ok (.iinc 1 1, 3) := by decide +kernel
theorem dX11_turn_127 : decode cX11_turn 127 = .ok (.goto (-27), 3) := by decide +kernel
theorem dX11_turn_130 : decode cX11_turn 130 = .ok (.aload_n 0, 1) := by decide +kernel
theorem dX11_turn_131 : decode cX11_turn 131 = .ok (.getfield 56, 3) := by decide +kernel
theorem dX11_turn_134 : decode cX11_turn 134 = .ok (.iconst 0, 1) := by decide +kernel
theorem dX11_turn_135 : decode cX11_turn 135 = .ok (.iaload, 1) := by decide +kernel
theorem dX11_turn_136 : decode cX11_turn 136 = .ok (.ireturn, 1) := by decide +kernel
theorem dX11_copy_0 : decode cX11_copy 0 = .ok (.aload_n 0, 1) := by decide +kernel
theorem dX11_copy_1 : decode cX11_copy 1 = .ok (.getfield 59, 3) := by decide +kernel
theorem dX11_copy_4 : decode cX11_copy 4 = .ok (.iload_n 2, 1) := by decide +kernel
theorem dX11_copy_5 : decode cX11_copy 5 = .ok (.aload_n 0, 1) := by decide +kernel
theorem dX11_copy_6 : decode cX11_copy 6 = .ok (.getfield 59, 3) := by decide +kernel
theorem dX11_copy_9 : decode cX11_copy 9 = .ok (.iload_n 1, 1) := by decide +kernel
theorem dX11_copy_10 : decode cX11_copy 10 = .ok (.iaload, 1) := by decide +kernel
theorem dX11_copy_11 : decode cX11_copy 11 = .ok (.iastore, 1) := by decide +kernel
theorem dX11_copy_12 : decode cX11_copy 12 = .ok (.aload_n 0, 1) := by decide +kernel
theorem dX11_copy_13 : decode cX11_copy 13 = .ok (.getfield 62, 3) := by decide +kernel
theorem dX11_copy_16 : decode cX11_copy 16 = .ok (.iload_n 2, 1) := by decide +kernel
theorem dX11_copy_17 : decode cX11_copy 17 = .ok (.aload_n 0, 1) := by decide +kernel
theorem dX11_copy_18 : decode cX11_copy 18 = .ok (.getfield 62, 3) := by decide +kernel
theorem dX11_copy_21 : decode cX11_copy 21 = .ok (.iload_n 1, 1) := by decide +kernel
theorem dX11_copy_22 : decode cX11_copy 22 = .ok (.iaload, 1) := by decide +kernel
theorem dX11_copy_23 : decode cX11_copy 23 = .ok (.iastore, 1) := by decide +kernel
theorem dX11_copy_24 : decode cX11_copy 24 = .ok (.aload_n 0, 1) := by decide +kernel
theorem dX11_copy_25 : decode cX11_copy 25 = .ok (.getfield 65, 3) := by decide +kernel
theorem dX11_copy_28 : decode cX11_copy 28 = .ok (.iload_n 2, 1) := by decide +kernel
theorem dX11_copy_29 : decode cX11_copy 29 = .ok (.aload_n 0, 1) := by decide +kernel
theorem dX11_copy_30 : decode cX11_copy 30 = .ok (.getfield 65, 3) := by decide +kernel
theorem dX11_copy_33 : decode cX11_copy 33 = .ok (.iload_n 1, 1) := by decide +kernel
theorem dX11_copy_34 : decode cX11_copy 34 = .ok (.iaload, 1) := by decide +kernel
theorem dX11_copy_35 : decode cX11_copy 35 = .ok (.iastore, 1) := by decide +kernel
theorem dX11_copy_36 : decode cX11_copy 36 = .ok (.aload_n 0, 1) := by decide +kernel
theorem dX11_copy_37 : decode cX11_copy 37 = .ok (.getfield 68, 3) := by decide +kernel
theorem dX11_copy_40 : decode cX11_copy 40 = .ok (.iload_n 2, 1) := by decide +kernel
theorem dX11_copy_41 : decode cX11_copy 41 = .ok (.aload_n 0, 1) := by decide +kernel
theorem dX11_copy_42 : decode cX11_copy 42 = .ok (.getfield 68, 3) := by decide +kernel
theorem dX11_copy_45 : decode cX11_copy 45 = .ok (.iload_n 1, 1) := by decide +kernel
theorem dX11_copy_46 : decode cX11_copy 46 = .ok (.iaload, 1) := by decide +kernel
theorem dX11_copy_47 : decode cX11_copy 47 = .ok (.iastore, 1) := by decide +kernel
theorem dX11_copy_48 : decode cX11_copy 48 = .ok (.aload_n 0, 1) := by decide +kernel
theorem dX11_copy_49 : decode cX11_copy 49 = .ok (.getfield 71, 3) := by decide +kernel
theorem dX11_copy_52 : decode cX11_copy 52 = .ok (.iload_n 2, 1) := by decide +kernel
theorem dX11_copy_53 : decode cX11_copy 53 = .ok (.aload_n 0, 1) := by decide +kernel
theorem dX11_copy_54 : decode cX11_copy 54 = .ok (.getfield 71, 3) := by decide +kernel
theorem dX11_copy_57 : decode cX11_copy 57 = .ok (.iload_n 1, 1) := by decide +kernel
theorem dX11_copy_58 : decode cX11_copy 58 = .ok (.iaload, 1) := by decide +kernel
theorem dX11_copy_59 : decode cX11_copy 59 = .ok (.iastore, 1) := by decide +kernel
theorem dX11_copy_60 : decode cX11_copy 60 = .ok (.aload_n 0, 1) := by decide +kernel
theorem dX11_copy_61 : decode cX11_copy 61 = .ok (.getfield 77, 3) := by decide +kernel
theorem dX11_copy_64 : decode cX11_copy 64 = .ok (.iload_n 2, 1) := by decide +kernel
theorem dX11_copy_65 : decode cX11_copy 65 = .ok (.aload_n 0, 1) := by decide +kernel
theorem dX11_copy_66 : decode cX11_copy 66 = .ok (.getfield 77, 3) := by decide +kernel
theorem dX11_copy_69 : decode cX11_copy 69 = .ok (.iload_n 1, 1) := by decide +kernel
theorem dX11_copy_70 : decode cX11_copy 70 = .ok (.iaload, 1) := by decide +kernel
theorem dX11_copy_71 : decode cX11_copy 71 = .ok (.iastore, 1) := by decide +kernel
theorem dX11_copy_72 : decode cX11_copy 72 = .ok (.iconst 0, 1) := by decide +kernel
theorem dX11_copy_73 : decode cX11_copy 73 = .ok (.istore_n 3, 1) := by decide +kernel
theorem dX11_copy_74 : decode cX11_copy 74 = .ok (.iload_n 3, 1) := by decide +kernel
theorem dX11_copy_75 : decode cX11_copy 75 = .ok (.bipush 12, 2) := by decide +kernel
theorem dX11_copy_77 : decode cX11_copy 77 = .ok (.if_icmp .ge 31, 3) := by decide +kernel
theorem dX11_copy_80 : decode cX11_copy 80 = .ok (.aload_n 0, 1) := by decide +kernel
theorem dX11_copy_81 : decode cX11_copy 81 = .ok (.getfield 74, 3) := by decide +kernel
theorem dX11_copy_84 : decode cX11_copy 84 = .ok (.bipush 12, 2) := by decide +kernel
theorem dX11_copy_86 : decode cX11_copy 86 = .ok (.iload_n 2, 1) := by decide +kernel
theorem dX11_copy_87 : decode cX11_copy 87 = .ok (.imul, 1) := by decide +kernel
theorem dX11_copy_88 : decode cX11_copy 88 = .ok (.iload_n 3, 1) := by decide +kernel
theorem dX11_copy_89 : decode cX11_copy 89 = .ok (.iadd, 1) := by decide +kernel
theorem dX11_copy_90 : decode cX11_copy 90 = .ok (.aload_n 0, 1) := by decide +kernel
theorem dX11_copy_91 : decode cX11_copy 91 = .ok (.getfield 74, 3) := by decide +kernel
theorem dX11_copy_94 : decode cX11_copy 94 = .ok (.bipush 12, 2) := by decide +kernel
theorem dX11_copy_96 : decode cX11_copy 96 = .ok (.iload_n 1, 1) := by decide +kernel
theorem dX11_copy_97 : decode cX11_copy 97 = .ok (.imul, 1) := by decide +kernel
theorem dX11_copy_98 : decode cX11_copy 98 = .ok (.iload_n 3, 1) := by decide +kernel
theorem dX11_copy_99 : decode cX11_copy 99 = .ok (.iadd, 1) := by decide +kernel
theorem dX11_copy_100 : decode cX11_copy 100 = .ok (.iaload, 1) := by decide +kernel
theorem dX11_copy_101 : decode cX11_copy 101 = .ok (.iastore, 1) := by decide +kernel
theorem dX11_copy_102 : decode cX11_copy 102 = .ok (.iinc 3 1, 3) := by decide +kernel
theorem dX11_copy_105 : decode cX11_copy 105 = .ok (.goto (-31), 3) := by decide +kernel
theorem dX11_copy_108 : decode cX11_copy 108 = .ok (.aload_n 0, 1) := by decide +kernel
theorem dX11_copy_109 : decode cX11_copy 109 = .ok (.getfield 80, 3) := by decide +kernel
theorem dX11_copy_112 : decode cX11_copy 112 = .ok (.iload_n 2, 1) := by decide +kernel
theorem dX11_copy_113 : decode cX11_copy 113 = .ok (.aload_n 0, 1) := by decide +kernel
theorem dX11_copy_114 : decode cX11_copy 114 = .ok (.getfield 80, 3) := by decide +kernel
theorem dX11_copy_117 : decode cX11_copy 117 = .ok (.iload_n 1, 1) := by decide +kernel
theorem dX11_copy_118 : decode cX11_copy 118 = .ok (.iaload, 1) := by decide +kernel
theorem dX11_copy_119 : decode cX11_copy 119 = .ok (.iastore, 1) := by decide +kernel
theorem dX11_copy_120 : decode cX11_copy 120 = .ok (.aload_n 0, 1) := by decide +kernel
theorem dX11_copy_121 : decode cX11_copy 121 = .ok (.getfield 83, 3) := by decide +kernel
theorem dX11_copy_124 : decode cX11_copy 124 = .ok (.iload_n 2, 1) := by decide +kernel
theorem dX11_copy_125 : decode cX11_copy 125 = .ok (.aload_n 0, 1) := by decide +kernel
theorem dX11_copy_126 : decode cX11_copy 126 = .ok (.getfield 83, 3) := by decide +kernel
theorem dX11_copy_129 : decode cX11_copy 129 = .ok (.iload_n 1, 1) := by decide +kernel
theorem dX11_copy_130 : decode cX11_copy 130 = .ok (.iaload, 1) := by decide +kernel
theorem dX11_copy_131 : decode cX11_copy 131 = .ok (.iastore, 1) := by decide +kernel
theorem dX11_copy_132 : decode cX11_copy 132 = .ok (.aload_n 0, 1) := by decide +kernel
theorem dX11_copy_133 : decode cX11_copy 133 = .ok (.getfield 89, 3) := by decide +kernel
theorem dX11_copy_136 : decode cX11_copy 136 = .ok (.iload_n 2, 1) := by decide +kernel
theorem dX11_copy_137 : decode cX11_copy 137 = .ok (.aload_n 0, 1) := by decide +kernel
theorem dX11_copy_138 : decode cX11_copy 138 = .ok (.getfield 89, 3) := by decide +kernel
theorem dX11_copy_141 : decode cX11_copy 141 = .ok (.iload_n 1, 1) := by decide +kernel
theorem dX11_copy_142 : decode cX11_copy 142 = .ok (.iaload, 1) := by decide +kernel
theorem dX11_copy_143 : decode cX11_copy 143 = .ok (.iastore, 1) := by decide +kernel
theorem dX11_copy_144 : decode cX11_copy 144 = .ok (.iconst 0, 1) := by decide +kernel
theorem dX11_copy_145 : decode cX11_copy 145 = .ok (.istore_n 3, 1) := by decide +kernel
theorem dX11_copy_146 : decode cX11_copy 146 = .ok (.iload_n 3, 1) := by decide +kernel
theorem dX11_copy_147 : decode cX11_copy 147 = .ok (.aload_n 0, 1) := by decide +kernel
theorem dX11_copy_148 : decode cX11_copy 148 = .ok (.getfield 89, 3) := by decide +kernel
theorem dX11_copy_151 : decode cX11_copy 151 = .ok (.iload_n 1, 1) := by decide +kernel
theorem dX11_copy_152 : decode cX11_copy 152 = .ok (.iaload, 1) := by decide +kernel
theorem dX11_copy_153 : decode cX11_copy 153 = .ok (.if_icmp .ge 31, 3) := by decide +kernel
theorem dX11_copy_156 : decode cX11_copy 156 = .ok (.aload_n 0, 1) := by decide +kernel
theorem dX11_copy_157 : decode cX11_copy 157 = .ok (.getfield 92, 3) := by decide +kernel
theorem dX11_copy_160 : decode cX11_copy 160 = .ok (.bipush 60, 2) := by decide +kernel
theorem dX11_copy_162 : decode cX11_copy 162 = .ok (.iload_n 2, 1) := by decide +kernel
theorem dX11_copy_163 : decode cX11_copy 163 = .ok (.imul, 1) := by decide +kernel
theorem dX11_copy_164 : decode cX11_copy 164 = .ok (.iload_n 3, 1) := by decide +kernel
theorem dX11_copy_165 : decode cX11_copy 165 = .ok (.iadd, 1) := by decide +kernel
theorem dX11_copy_166 : decode cX11_copy 166 = .ok (.aload_n 0, 1) := by decide +kernel
theorem dX11_copy_167 : decode cX11_copy 167 = .ok (.getfield 92, 3) := by decide +kernel
theorem dX11_copy_170 : decode cX11_copy 170 = .ok (.bipush 60, 2) := by decide +kernel
theorem dX11_copy_172 : decode cX11_copy 172 = .ok (.iload_n 1, 1) := by decide +kernel
theorem dX11_copy_173 : decode cX11_copy 173 = .ok (.imul, 1) := by decide +kernel
theorem dX11_copy_174 : decode cX11_copy 174 = .ok (.iload_n 3, 1) := by decide +kernel
theorem dX11_copy_175 : decode cX11_copy 175 = .ok (.iadd, 1) := by decide +kernel
theorem dX11_copy_176 : decode cX11_copy 176 = .ok (.iaload, 1) := by decide +kernel
theorem dX11_copy_177 : decode cX11_copy 177 = .ok (.iastore, 1) := by decide +kernel
theorem dX11_copy_178 : decode cX11_copy 178 = .ok (.iinc 3 1, 3) := by decide +kernel
theorem dX11_copy_181 : decode cX11_copy 181 = .ok (.goto (-35), 3) := by decide +kernel
theorem dX11_copy_184 : decode cX11_copy 184 = .ok (.aload_n 0, 1) := by decide +kernel
theorem dX11_copy_185 : decode cX11_copy 185 = .ok (.getfield 89, 3) := by decide +kernel
theorem dX11_copy_188 : decode cX11_copy 188 = .ok (.iload_n 1, 1) := by decide +kernel
theorem dX11_copy_189 : decode cX11_copy 189 = .ok (.iaload, 1) := by decide +kernel
theorem dX11_copy_190 : decode cX11_copy 190 = .ok (.ifCond .lt 55, 3) := by decide +kernel
theorem dX11_copy_193 : decode cX11_copy 193 = .ok (.aload_n 0, 1) := by decide +kernel
theorem dX11_copy_194 : decode cX11_copy 194 = .ok (.getfield 95, 3) := by decide +kernel
theorem dX11_copy_197 : decode cX11_copy 197 = .ok (.iload_n 2, 1) := by decide +kernel
theorem dX11_copy_198 : decode cX11_copy 198 = .ok (.aload_n 0, 1) := by decide +kernel
theorem dX11_copy_199 : decode cX11_copy 199 = .ok (.getfield 95, 3) := by decide +kernel
theorem dX11_copy_202 : decode cX11_copy 202 = .ok (.iload_n 1, 1) := by decide +kernel
theorem dX11_copy_203 : decode cX11_copy 203 = .ok (.iaload, 1) := by decide +kernel
theorem dX11_copy_204 : decode cX11_copy 204 = .ok (.iastore, 1) := by decide +kernel
theorem dX11_copy_205 : decode cX11_copy 205 = .ok (.iconst 0, 1) := by decide +kernel
theorem dX11_copy_206 : decode cX11_copy 206 = .ok (.istore_n 3, 1) := by decide +kernel
theorem dX11_copy_207 : decode cX11_copy 207 = .ok (.iload_n 3, 1) := by decide +kernel
theorem dX11_copy_208 : decode cX11_copy 208 = .ok (.aload_n 0, 1) := by decide +kernel
theorem dX11_copy_209 : decode cX11_copy 209 = .ok (.getfield 95, 3) := by decide +kernel
theorem dX11_copy_212 : decode cX11_copy 212 = .ok (.iload_n 1, 1) := by decide +kernel
theorem dX11_copy_213 : decode cX11_copy 213 = .ok (.iaload, 1) := by decide +kernel
theorem dX11_copy_214 : decode cX11_copy 214 = .ok (.if_icmp .ge 31, 3) := by decide +kernel
theorem dX11_copy_217 : decode cX11_copy 217 = .ok (.aload_n 0, 1) := by decide +kernel
theorem dX11_copy_218 : decode cX11_copy 218 = .ok (.getfield 99, 3) := by decide +kernel
theorem dX11_copy_221 : decode cX11_copy 221 = .ok (.bipush 120, 2) := by decide +kernel
theorem dX11_copy_223 : decode cX11_copy 223 = .ok (.iload_n 2, 1) := by decide +kernel
theorem dX11_copy_224 : decode cX11_copy 224 = .ok (.imul, 1) := by decide +kernel
theorem dX11_copy_225 : decode cX11_copy 225 = .ok (.iload_n 3, 1) := by decide +kernel
theorem dX11_copy_226 : decode cX11_copy 226 = .ok (.iadd, 1) := by decide +kernel
theorem dX11_copy_227 : decode cX11_copy 227 = .ok (.aload_n 0, 1) := by decide +kernel
theorem dX11_copy_228 : decode cX11_copy 228 = .ok (.getfield 99, 3) := by decide +kernel
theorem dX11_copy_231 : decode cX11_copy 231 = .ok (.bipush 120, 2) := by decide +kernel
theorem dX11_copy_233 : decode cX11_copy 233 = .ok (.iload_n 1, 1) := by decide +kernel
theorem dX11_copy_234 : decode cX11_copy 234 = .ok (.imul, 1) := by decide +kernel
theorem dX11_copy_235 : decode cX11_copy 235 = .ok (.iload_n 3, 1) := by decide +kernel
theorem dX11_copy_236 : decode cX11_copy 236 = .ok (.iadd, 1) := by decide +kernel
theorem dX11_copy_237 : decode cX11_copy 237 = .ok (.iaload, 1) := by decide +kernel
theorem dX11_copy_238 : decode cX11_copy 238 = .ok (.iastore, 1) := by decide +kernel
theorem dX11_copy_239 : decode cX11_copy 239 = .ok (.iinc 3 1, 3) := by decide +kernel
theorem dX11_copy_242 : decode cX11_copy 242 = .ok (.goto (-35), 3) := by decide +kernel
theorem dX11_copy_245 : decode cX11_copy 245 = .ok (.aload_n 0, 1) := by decide +kernel
theorem dX11_copy_246 : decode cX11_copy 246 = .ok (.getfield 102, 3) := by decide +kernel
theorem dX11_copy_249 : decode cX11_copy 249 = .ok (.iload_n 2, 1) := by decide +kernel
theorem dX11_copy_250 : decode cX11_copy 250 = .ok (.aload_n 0, 1) := by decide +kernel
theorem dX11_copy_251 : decode cX11_copy 251 = .ok (.getfield 102, 3) := by decide +kernel
theorem dX11_copy_254 : decode cX11_copy 254 = .ok (.iload_n 1, 1) := by decide +kernel
theorem dX11_copy_255 : decode cX11_copy 255 = .ok (.baload, 1) := by decide +kernel
theorem dX11_copy_256 : decode cX11_copy 256 = .ok (.bastore, 1) := by decide +kernel
theorem dX11_copy_257 : decode cX11_copy 257 = .ok (.return_, 1) := by decide +kernel
theorem dX11_make_0 : decode cX11_make 0 = .ok (.aload_n 0, 1) := by decide +kernel
theorem dX11_make_1 : decode cX11_make 1 = .ok (.invokevirtual 257, 3) := by decide +kernel
theorem dX11_make_4 : decode cX11_make 4 = .ok (.ifCond .eq 10, 3) := by decide +kernel
theorem dX11_make_7 : decode cX11_make 7 = .ok (.aload_n 0, 1) := by decide +kernel
theorem dX11_make_8 : decode cX11_make 8 = .ok (.invokevirtual 260, 3) := by decide +kernel
theorem dX11_make_11 : decode cX11_make 11 = .ok (.goto 4, 3) := by decide +kernel
theorem dX11_make_14 : decode cX11_make 14 = .ok (.iconst (-1), 1) := by decide +kernel
theorem dX11_make_15 : decode cX11_make 15 = .ok (.ireturn, 1) := by decide +kernel
theorem dX11_isPiece_0 : decode cX11_isPiece 0 = .ok (.iload_n 1, 1) := by decide +kernel
theorem dX11_isPiece_1 : decode cX11_isPiece 1 = .ok (.iconst 0, 1) := by decide +kernel
theorem dX11_isPiece_2 : decode cX11_isPiece 2 = .ok (.aload_n 0, 1) := by decide +kernel
theorem dX11_isPiece_3 : decode cX11_isPiece 3 = .ok (.getfield 56, 3) := by decide +kernel
theorem dX11_isPiece_6 : decode cX11_isPiece 6 = .ok (.iconst 0, 1) := by decide +kernel
theorem dX11_isPiece_7 : decode cX11_isPiece 7 = .ok (.iaload, 1) := by decide +kernel
theorem dX11_isPiece_8 : decode cX11_isPiece 8 = .ok (.iconst 1, 1) := by decide +kernel
theorem dX11_isPiece_9 : decode cX11_isPiece 9 = .ok (.isub, 1) := by decide +kernel
theorem dX11_isPiece_10 : decode cX11_isPiece 10 = .ok (.invokestatic 130, 3) := by decide +kernel
theorem dX11_isPiece_13 : decode cX11_isPiece 13 = .ok (.ireturn, 1) := by decide +kernel
theorem dX11_shownLong_0 : decode cX11_shownLong 0 = .ok (.aload_n 0, 1) := by decide +kernel
theorem dX11_shownLong_1 : decode cX11_shownLong 1 = .ok (.getfield 89, 3) := by decide +kernel
theorem dX11_shownLong_4 : decode cX11_shownLong 4 = .ok (.iload_n 1, 1) := by decide +kernel
theorem dX11_shownLong_5 : decode cX11_shownLong 5 = .ok (.iaload, 1) := by decide +kernel
theorem dX11_shownLong_6 : decode cX11_shownLong 6 = .ok (.ifCond .lt 12, 3) := by decide +kernel
theorem dX11_shownLong_9 : decode cX11_shownLong 9 = .ok (.aload_n 0, 1) := by decide +kernel
theorem dX11_shownLong_10 : decode cX11_shownLong 10 = .ok (.getfield 89, 3) := by decide +kernel
theorem dX11_shownLong_13 : decode cX11_shownLong 13 = .ok (.iload_n 1, 1) := by decide +kernel
theorem dX11_shownLong_14 : decode cX11_shownLong 14 = .ok (.iaload, 1) := by decide +kernel
theorem dX11_shownLong_15 : decode cX11_shownLong 15 = .ok (.goto 9, 3) := by decide +kernel
theorem dX11_shownLong_18 : decode cX11_shownLong 18 = .ok (.aload_n 0, 1) := by decide +kernel
theorem dX11_shownLong_19 : decode cX11_shownLong 19 = .ok (.getfield 83, 3) := by decide +kernel
theorem dX11_shownLong_22 : decode cX11_shownLong 22 = .ok (.iload_n 1, 1) := by decide +kernel
theorem dX11_shownLong_23 : decode cX11_shownLong 23 = .ok (.iaload, 1) := by decide +kernel
theorem dX11_shownLong_24 : decode cX11_shownLong 24 = .ok (.ireturn, 1) := by decide +kernel
theorem dX11_shown_0 : decode cX11_shown 0 = .ok (.aload_n 0, 1) := by decide +kernel
theorem dX11_shown_1 : decode cX11_shown 1 = .ok (.getfield 89, 3) := by decide +kernel
theorem dX11_shown_4 : decode cX11_shown 4 = .ok (.iload_n 1, 1) := by decide +kernel
theorem dX11_shown_5 : decode cX11_shown 5 = .ok (.iaload, 1) := by decide +kernel
theorem dX11_shown_6 : decode cX11_shown 6 = .ok (.ifCond .lt 17, 3) := by decide +kernel
theorem dX11_shown_9 : decode cX11_shown 9 = .ok (.aload_n 0, 1) := by decide +kernel
theorem dX11_shown_10 : decode cX11_shown 10 = .ok (.getfield 92, 3) := by decide +kernel
theorem dX11_shown_13 : decode cX11_shown 13 = .ok (.bipush 60, 2) := by decide +kernel
theorem dX11_shown_15 : decode cX11_shown 15 = .ok (.iload_n 1, 1) := by decide +kernel
theorem dX11_shown_16 : decode cX11_shown 16 = .ok (.imul, 1) := by decide +kernel
theorem dX11_shown_17 : decode cX11_shown 17 = .ok (.iload_n 2, 1) := by decide +kernel
theorem dX11_shown_18 : decode cX11_shown 18 = .ok (.iadd, 1) := by decide +kernel
theorem dX11_shown_19 : decode cX11_shown 19 = .ok (.iaload, 1) := by decide +kernel
theorem dX11_shown_20 : decode cX11_shown 20 = .ok (.goto 31, 3) := by decide +kernel
theorem dX11_shown_23 : decode cX11_shown 23 = .ok (.aload_n 0, 1) := by decide +kernel
theorem dX11_shown_24 : decode cX11_shown 24 = .ok (.getfield 86, 3) := by decide +kernel
theorem dX11_shown_27 : decode cX11_shown 27 = .ok (.iload_n 1, 1) := by decide +kernel
theorem dX11_shown_28 : decode cX11_shown 28 = .ok (.sipush 250, 3) := by decide +kernel
theorem dX11_shown_31 : decode cX11_shown 31 = .ok (.if_icmp .ge 7, 3) := by decide +kernel
theorem dX11_shown_34 : decode cX11_shown 34 = .ok (.iconst 0, 1) := by decide +kernel
theorem dX11_shown_35 : decode cX11_shown 35 = .ok (.goto 6, 3) := by decide +kernel
theorem dX11_shown_38 : decode cX11_shown 38 = .ok (.sipush 3000, 3) := by decide +kernel
theorem dX11_shown_41 : decode cX11_shown 41 = .ok (.aload_n 0, 1) := by decide +kernel
theorem dX11_shown_42 : decode cX11_shown 42 = .ok (.getfield 80, 3) := by decide +kernel
theorem dX11_shown_45 : decode cX11_shown 45 = .ok (.iload_n 1, 1) := by decide +kernel
theorem dX11_shown_46 : decode cX11_shown 46 = .ok (.iaload, 1) := by decide +kernel
theorem dX11_shown_47 : decode cX11_shown 47 = .ok (.iadd, 1) := by decide +kernel
theorem dX11_shown_48 : decode cX11_shown 48 = .ok (.iload_n 2, 1) := by decide +kernel
theorem dX11_shown_49 : decode cX11_shown 49 = .ok (.iadd, 1) := by decide +kernel
theorem dX11_shown_50 : decode cX11_shown 50 = .ok (.iaload, 1) := by decide +kernel
theorem dX11_shown_51 : decode cX11_shown 51 = .ok (.ireturn, 1) := by decide +kernel
theorem dX11_piece_0 : decode cX11_piece 0 = .ok (.aload_n 0, 1) := by decide +kernel
theorem dX11_piece_1 : decode cX11_piece 1 = .ok (.iload_n 1, 1) := by decide +kernel
theorem dX11_piece_2 : decode cX11_piece 2 = .ok (.invokevirtual 263, 3) := by decide +kernel
theorem dX11_piece_5 : decode cX11_piece 5 = .ok (.ifCond .ne 5, 3) := by decide +kernel
theorem dX11_piece_8 : decode cX11_piece 8 = .ok (.iconst (-1), 1) := by decide +kernel
theorem dX11_piece_9 : decode cX11_piece 9 = .ok (.ireturn, 1) := by decide +kernel
theorem dX11_piece_10 : decode cX11_piece 10 = .ok (.iload_n 2, 1) := by decide +kernel
theorem dX11_piece_11 : decode cX11_piece 11 = .ok (.tableswitch 165 0 8 #[49, 94, 101, 108, 114, 121, 136, 151, 158], 49) := by decide +kernel
theorem dX11_piece_60 : decode cX11_piece 60 = .ok (.aload_n 0, 1) := by decide +kernel
theorem dX11_piece_61 : decode cX11_piece 61 = .ok (.getfield 7, 3) := by decide +kernel
theorem dX11_piece_64 : decode cX11_piece 64 = .ok (.aload_n 0, 1) := by decide +kernel
theorem dX11_piece_65 : decode cX11_piece 65 = .ok (.getfield 77, 3) := by decide +kernel
theorem dX11_piece_68 : decode cX11_piece 68 = .ok (.iload_n 1, 1) := by decide +kernel
theorem dX11_piece_69 : decode cX11_piece 69 = .ok (.iaload, 1) := by decide +kernel
theorem dX11_piece_70 : decode cX11_piece 70 = .ok (.iaload, 1) := by decide +kernel
theorem dX11_piece_71 : decode cX11_piece 71 = .ok (.aload_n 0, 1) := by decide +kernel
theorem dX11_piece_72 : decode cX11_piece 72 = .ok (.getfield 74, 3) := by decide +kernel
theorem dX11_piece_75 : decode cX11_piece 75 = .ok (.bipush 12, 2) := by decide +kernel
theorem dX11_piece_77 : decode cX11_piece 77 = .ok (.iload_n 1, 1) := by decide +kernel
theorem dX11_piece_78 : decode cX11_piece 78 = .ok (.imul, 1) := by decide +kernel
theorem dX11_piece_79 : decode cX11_piece 79 = .ok (.iconst 2, 1) := by decide +kernel
theorem dX11_piece_80 : decode cX11_piece 80 = .ok (.aload_n 0, 1) := by decide +kernel
theorem dX11_piece_81 : decode cX11_piece 81 = .ok (.getfield 71, 3) := by decide +kernel
theorem dX11_piece_84 : decode cX11_piece 84 = .ok (.iload_n 1, 1) := by decide +kernel
theorem dX11_piece_85 : decode cX11_piece 85 = .ok (.iaload, 1) := by decide +kernel
theorem dX11_piece_86 : decode cX11_piece 86 = .ok (.imul, 1) := by decide +kernel
theorem dX11_piece_87 : decode cX11_piece 87 = .ok (.iadd, 1) := by decide +kernel
theorem dX11_piece_88 : decode cX11_piece 88 = .ok (.iconst 2, 1) := by decide +kernel
theorem dX11_piece_89 : decode cX11_piece 89 = .ok (.isub, 1) := by decide +kernel
theorem dX11_piece_90 : decode cX11_piece 90 = .ok (.iaload, 1) := by decide +kernel
theorem dX11_piece_91 : decode cX11_piece 91 = .ok (.if_icmp .ne 12, 3) := by decide +kernel
theorem dX11_piece_94 : decode cX11_piece 94 = .ok (.aload_n 0, 1) := by decide +kernel
theorem dX11_piece_95 : decode cX11_piece 95 = .ok (.getfield 77, 3) := by decide +kernel
theorem dX11_piece_98 : decode cX11_piece 98 = .ok (.iload_n 1, 1) := by decide +kernel
theorem dX11_piece_99 : decode cX11_piece 99 = .ok (.iaload, 1) := by decide +kernel
theorem dX11_piece_100 : decode cX11_piece 100 = .ok (.goto 4, 3) := by decide +kernel
theorem dX11_piece_103 : decode cX11_piece 103 = .ok (.iconst (-1), 1) := by decide +kernel
theorem dX11_piece_104 : decode cX11_piece 104 = .ok (.ireturn, 1) := by decide +kernel
theorem dX11_piece_105 : decode cX11_piece 105 = .ok (.aload_n 0, 1) := by decide +kernel
theorem dX11_piece_106 : decode cX11_piece 106 = .ok (.getfield 59, 3) := by decide +kernel
theorem dX11_piece_109 : decode cX11_piece 109 = .ok (.iload_n 1, 1) := by decide +kernel
theorem dX11_piece_110 : decode cX11_piece 110 = .ok (.iaload, 1) := by decide +kernel
theorem dX11_piece_111 : decode cX11_piece 111 = .ok (.ireturn, 1) := by decide +kernel
theorem dX11_piece_112 : decode cX11_piece 112 = .ok (.aload_n 0, 1) := by decide +kernel
theorem dX11_piece_113 : decode cX11_piece 113 = .ok (.getfield 62, 3) := by decide +kernel
theorem dX11_piece_116 : decode cX11_piece 116 = .ok (.iload_n 1, 1) := by decide +kernel
theorem dX11_piece_117 : decode cX11_piece 117 = .ok (.iaload, 1) := by decide +kernel
theorem dX11_piece_118 : decode cX11_piece 118 = .ok (.ireturn, 1) := by decide +kernel
theorem dX11_piece_119 : decode cX11_piece 119 = .ok (.aload_n 0, 1) := by decide +kernel
theorem dX11_piece_120 : decode cX11_piece 120 = .ok (.iload_n 1, 1) := by decide +kernel
theorem dX11_piece_121 : decode cX11_piece 121 = .ok (.invokevirtual 266, 3) := by decide +kernel
theorem dX11_piece_124 : decode cX11_piece 124 = .ok (.ireturn, 1) := by decide +kernel
theorem dX11_piece_125 : decode cX11_piece 125 = .ok (.aload_n 0, 1) := by decide +kernel
theorem dX11_piece_126 : decode cX11_piece 126 = .ok (.getfield 83, 3) := by decide +kernel
theorem dX11_piece_129 : decode cX11_piece 129 = .ok (.iload_n 1, 1) := by decide +kernel
theorem dX11_piece_130 : decode cX11_piece 130 = .ok (.iaload, 1) := by decide +kernel
theorem dX11_piece_131 : decode cX11_piece 131 = .ok (.ireturn, 1) := by decide +kernel
theorem dX11_piece_132 : decode cX11_piece 132 = .ok (.aload_n 0, 1) := by decide +kernel
theorem dX11_piece_133 : decode cX11_piece 133 = .ok (.getfield 89, 3) := by decide +kernel
theorem dX11_piece_136 : decode cX11_piece 136 = .ok (.iload_n 1, 1) := by decide +kernel
theorem dX11_piece_137 : decode cX11_piece 137 = .ok (.iaload, 1) := by decide +kernel
theorem dX11_piece_138 : decode cX11_piece 138 = .ok (.ifCond .lt 7, 3) := by decide +kernel
theorem dX11_piece_141 : decode cX11_piece 141 = .ok (.iconst 1, 1) := by decide +kernel
theorem dX11_piece_142 : decode cX11_piece 142 = .ok (.goto 4, 3) := by decide +kernel
theorem dX11_piece_145 : decode cX11_piece 145 = .ok (.iconst 0, 1) := by decide +kernel
theorem dX11_piece_146 : decode cX11_piece 146 = .ok (.ireturn, 1) := by decide +kernel
theorem dX11_piece_147 : decode cX11_piece 147 = .ok (.aload_n 0, 1) := by decide +kernel
theorem dX11_piece_148 : decode cX11_piece 148 = .ok (.getfield 102, 3) := by decide +kernel
theorem dX11_piece_151 : decode cX11_piece 151 = .ok (.iload_n 1, 1) := by decide +kernel
theorem dX11_piece_152 : decode cX11_piece 152 = .ok (.baload, 1) := by decide +kernel
theorem dX11_piece_153 : decode cX11_piece 153 = .ok (.ifCond .eq 7, 3) := by decide +kernel
theorem dX11_piece_156 : decode cX11_piece 156 = .ok (.iconst 1, 1) := by decide +kernel
theorem dX11_piece_157 : decode cX11_piece 157 = .ok (.goto 4, 3) := by decide +kernel
theorem dX11_piece_160 : decode cX11_piece 160 = .ok (.iconst 0, 1) := by decide +kernel
theorem dX11_piece_161 : decode cX11_piece 161 = .ok (.ireturn, 1) := by decide +kernel
theorem dX11_piece_162 : decode cX11_piece 162 = .ok (.aload_n 0, 1) := by decide +kernel
theorem dX11_piece_163 : decode cX11_piece 163 = .ok (.getfield 71, 3) := by decide +kernel
theorem dX11_piece_166 : decode cX11_piece 166 = .ok (.iload_n 1, 1) := by decide +kernel
theorem dX11_piece_167 : decode cX11_piece 167 = .ok (.iaload, 1) := by decide +kernel
theorem dX11_piece_168 : decode cX11_piece 168 = .ok (.ireturn, 1) := by decide +kernel
theorem dX11_piece_169 : decode cX11_piece 169 = .ok (.aload_n 0, 1) := by decide +kernel
theorem dX11_piece_170 : decode cX11_piece 170 = .ok (.getfield 65, 3) := by decide +kernel
theorem dX11_piece_173 : decode cX11_piece 173 = .ok (.iload_n 1, 1) := by decide +kernel
theorem dX11_piece_174 : decode cX11_piece 174 = .ok (.iaload, 1) := by decide +kernel
theorem dX11_piece_175 : decode cX11_piece 175 = .ok (.ireturn, 1) := by decide +kernel
theorem dX11_piece_176 : decode cX11_piece 176 = .ok (.iconst (-1), 1) := by decide +kernel
theorem dX11_piece_177 : decode cX11_piece 177 = .ok (.ireturn, 1) := by decide +kernel
theorem dX11_byteOf_0 : decode cX11_byteOf 0 = .ok (.aload_n 0, 1) := by decide +kernel
theorem dX11_byteOf_1 : decode cX11_byteOf 1 = .ok (.iload_n 1, 1) := by decide +kernel
theorem dX11_byteOf_2 : decode cX11_byteOf 2 = .ok (.invokevirtual 263, 3) := by decide +kernel
theorem dX11_byteOf_5 : decode cX11_byteOf 5 = .ok (.ifCond .eq 7, 3) := by decide +kernel
theorem dX11_byteOf_8 : decode cX11_byteOf 8 = .ok (.iload_n 3, 1) := by decide +kernel
theorem dX11_byteOf_9 : decode cX11_byteOf 9 = .ok (.ifCond .ge 5, 3) := by decide +kernel
theorem dX11_byteOf_12 : decode cX11_byteOf 12 = .ok (.iconst (-1), 1) := by decide +kernel
theorem dX11_byteOf_13 : decode cX11_byteOf 13 = .ok (.ireturn, 1) := by decide +kernel
theorem dX11_byteOf_14 : decode cX11_byteOf 14 = .ok (.iload_n 2, 1) := by decide +kernel
theorem dX11_byteOf_15 : decode cX11_byteOf 15 = .ok (.ifCond .ne 23, 3) := by decide +kernel
theorem dX11_byteOf_18 : decode cX11_byteOf 18 = .ok (.iload_n 3, 1) := by decide +kernel
theorem dX11_byteOf_19 : decode cX11_byteOf 19 = .ok (.aload_n 0, 1) := by decide +kernel
theorem dX11_byteOf_20 : decode cX11_byteOf 20 = .ok (.iload_n 1, 1) := by decide +kernel
theorem dX11_byteOf_21 : decode cX11_byteOf 21 = .ok (.invokevirtual 266, 3) := by decide +kernel
theorem dX11_byteOf_24 : decode cX11_byteOf 24 = .ok (.if_icmp .ge 12, 3) := by decide +kernel
theorem dX11_byteOf_27 : decode cX11_byteOf 27 = .ok (.aload_n 0, 1) := by decide +kernel
theorem dX11_byteOf_28 : decode cX11_byteOf 28 = .ok (.iload_n 1, 1) := by decide +kernel
theorem dX11_byteOf_29 : decode cX11_byteOf 29 = .ok (.iload_n 3, 1) := by decide +kernel
theorem dX11_byteOf_30 : decode cX11_byteOf 30 = .ok (.invokevirtual 269, 3) := by decide +kernel
theorem dX11_byteOf_33 : decode cX11_byteOf 33 = .ok (.goto 4, 3) := by decide +kernel
theorem dX11_byteOf_36 : decode cX11_byteOf 36 = .ok (.iconst (-1), 1) := by decide +kernel
theorem dX11_byteOf_37 : decode cX11_byteOf 37 = .ok (.ireturn, 1) := by decide +kernel
theorem dX11_byteOf_38 : decode cX11_byteOf 38 = .ok (.iload_n 2, 1) := by decide +kernel
theorem dX11_byteOf_39 : decode cX11_byteOf 39 = .ok (.iconst 1, 1) := by decide +kernel
theorem dX11_byteOf_40 : decode cX11_byteOf 40 = .ok (.if_icmp .ne 31, 3) := by decide +kernel
theorem dX11_byteOf_43 : decode cX11_byteOf 43 = .ok (.iload_n 3, 1) := by decide +kernel
theorem dX11_byteOf_44 : decode cX11_byteOf 44 = .ok (.aload_n 0, 1) := by decide +kernel
theorem dX11_byteOf_45 : decode cX11_byteOf 45 = .ok (.getfield 83, 3) := by decide +kernel
theorem dX11_byteOf_48 : decode cX11_byteOf 48 = .ok (.iload_n 1, 1) := by decide +kernel
theorem dX11_byteOf_49 : decode cX11_byteOf 49 = .ok (.iaload, 1) := by decide +kernel
theorem dX11_byteOf_50 : decode cX11_byteOf 50 = .ok (.if_icmp .ge 19, 3) := by decide +kernel
theorem dX11_byteOf_53 : decode cX11_byteOf 53 = .ok (.aload_n 0, 1) := by decide +kernel
theorem dX11_byteOf_54 : decode cX11_byteOf 54 = .ok (.getfield 86, 3) := by decide +kernel
theorem dX11_byteOf_57 : decode cX11_byteOf 57 = .ok (.aload_n 0, 1) := by decide +kernel
theorem dX11_byteOf_58 : decode cX11_byteOf 58 = .ok (.getfield 80, 3) := by decide +kernel
theorem dX11_byteOf_61 : decode cX11_byteOf 61 = .ok (.iload_n 1, 1) := by decide +kernel
theorem dX11_byteOf_62 : decode cX11_byteOf 62 = .ok (.iaload, 1) := by decide +kernel
theorem dX11_byteOf_63 : decode cX11_byteOf 63 = .ok (.iload_n 3, 1) := by decide +kernel
theorem dX11_byteOf_64 : decode cX11_byteOf 64 = .ok (.iadd, 1) := by decide +kernel
theorem dX11_byteOf_65 : decode cX11_byteOf 65 = .ok (.iaload, 1) := by decide +kernel
theorem dX11_byteOf_66 : decode cX11_byteOf 66 = .ok (.goto 4, 3) := by decide +kernel
theorem dX11_byteOf_69 : decode cX11_byteOf 69 = .ok (.iconst (-1), 1) := by decide +kernel
theorem dX11_byteOf_70 : decode cX11_byteOf 70 = .ok (.ireturn, 1) := by decide +kernel
theorem dX11_byteOf_71 : decode cX11_byteOf 71 = .ok (.iload_n 2, 1) := by decide +kernel
theorem dX11_byteOf_72 : decode cX11_byteOf 72 = .ok (.iconst 2, 1) := by decide +kernel
theorem dX11_byteOf_73 : decode cX11_byteOf 73 = .ok (.if_icmp .ne 36, 3) := by decide +kernel
theorem dX11_byteOf_76 : decode cX11_byteOf 76 = .ok (.aload_n 0, 1) := by decide +kernel
theorem dX11_byteOf_77 : decode cX11_byteOf 77 = .ok (.getfield 89, 3) := by decide +kernel
theorem dX11_byteOf_80 : decode cX11_byteOf 80 = .ok (.iload_n 1, 1) := by decide +kernel
theorem dX11_byteOf_81 : decode cX11_byteOf 81 = .ok (.iaload, 1) := by decide +kernel
theorem dX11_byteOf_82 : decode cX11_byteOf 82 = .ok (.ifCond .lt 27, 3) := by decide +kernel
theorem dX11_byteOf_85 : decode cX11_byteOf 85 = .ok (.iload_n 3, 1) := by decide +kernel
theorem dX11_byteOf_86 : decode cX11_byteOf 86 = .ok (.aload_n 0, 1) := by decide +kernel
theorem dX11_byteOf_87 : decode cX11_byteOf 87 = .ok (.getfield 95, 3) := by decide +kernel
theorem dX11_byteOf_90 : decode cX11_byteOf 90 = .ok (.iload_n 1, 1) := by decide +kernel
theorem dX11_byteOf_91 : decode cX11_byteOf 91 = .ok (.iaload, 1) := by decide +kernel
theorem dX11_byteOf_92 : decode cX11_byteOf 92 = .ok (.if_icmp .ge 17, 3) := by decide +kernel
theorem dX11_byteOf_95 : decode cX11_byteOf 95 = .ok (.aload_n 0, 1) := by decide +kernel
theorem dX11_byteOf_96 : decode cX11_byteOf 96 = .ok (.getfield 99, 3) := by decide +kernel
theorem dX11_byteOf_99 : decode cX11_byteOf 99 = .ok (.bipush 120, 2) := by decide +kernel
theorem dX11_byteOf_101 : decode cX11_byteOf 101 = .ok (.iload_n 1, 1) := by decide +kernel
theorem dX11_byteOf_102 : decode cX11_byteOf 102 = .ok (.imul, 1) := by decide +kernel
theorem dX11_byteOf_103 : decode cX11_byteOf 103 = .ok (.iload_n 3, 1) := by decide +kernel
theorem dX11_byteOf_104 : decode cX11_byteOf 104 = .ok (.iadd, 1) := by decide +kernel
theorem dX11_byteOf_105 : decode cX11_byteOf 105 = .ok (.iaload, 1) := by decide +kernel
theorem dX11_byteOf_106 : decode cX11_byteOf 106 = .ok (.goto 4, 3) := by decide +kernel
theorem dX11_byteOf_109 : decode cX11_byteOf 109 = .ok (.iconst (-1), 1) := by decide +kernel
theorem dX11_byteOf_110 : decode cX11_byteOf 110 = .ok (.ireturn, 1) := by decide +kernel
theorem dX11_setBase_0 : decode cX11_setBase 0 = .ok (.aload_n 0, 1) := by decide +kernel
theorem dX11_setBase_1 : decode cX11_setBase 1 = .ok (.getfield 95, 3) := by decide +kernel
theorem dX11_setBase_4 : decode cX11_setBase 4 = .ok (.iload_n 1, 1) := by decide +kernel
theorem dX11_setBase_5 : decode cX11_setBase 5 = .ok (.aload_n 0, 1) := by decide +kernel
theorem dX11_setBase_6 : decode cX11_setBase 6 = .ok (.getfield 83, 3) := by decide +kernel
theorem dX11_setBase_9 : decode cX11_setBase 9 = .ok (.iload_n 1, 1) := by decide +kernel
theorem dX11_setBase_10 : decode cX11_setBase 10 = .ok (.iaload, 1) := by decide +kernel
theorem dX11_setBase_11 : decode cX11_setBase 11 = .ok (.iastore, 1) := by decide +kernel
theorem dX11_setBase_12 : decode cX11_setBase 12 = .ok (.iconst 0, 1) := by decide +kernel
theorem dX11_setBase_13 : decode cX11_setBase 13 = .ok (.istore_n 2, 1) := by decide +kernel
theorem dX11_setBase_14 : decode cX11_setBase 14 = .ok (.iload_n 2, 1) := by decide +kernel
theorem dX11_setBase_15 : decode cX11_setBase 15 = .ok (.aload_n 0, 1) := by decide +kernel
theorem dX11_setBase_16 : decode cX11_setBase 16 = .ok (.getfield 83, 3) := by decide +kernel
theorem dX11_setBase_19 : decode cX11_setBase 19 = .ok (.iload_n 1, 1) := by decide +kernel
theorem dX11_setBase_20 : decode cX11_setBase 20 = .ok (.iaload, 1) := by decide +kernel
theorem dX11_setBase_21 : decode cX11_setBase 21 = .ok (.if_icmp .ge 33, 3) := by decide +kernel
theorem dX11_setBase_24 : decode cX11_setBase 24 = .ok (.aload_n 0, 1) := by decide +kernel
theorem dX11_setBase_25 : decode cX11_setBase 25 = .ok (.getfield 99, 3) := by decide +kernel
theorem dX11_setBase_28 : decode cX11_setBase 28 = .ok (.bipush 120, 2) := by decide +kernel
theorem dX11_setBase_30 : decode cX11_setBase 30 = .ok (.iload_n 1, 1) := by decide +kernel
theorem dX11_setBase_31 : decode cX11_setBase 31 = .ok (.imul, 1) := by decide +kernel
theorem dX11_setBase_32 : decode cX11_setBase 32 = .ok (.iload_n 2, 1) := by decide +kernel
theorem dX11_setBase_33 : decode cX11_setBase 33 = .ok (.iadd, 1) := by decide +kernel
theorem dX11_setBase_34 : decode cX11_setBase 34 = .ok (.aload_n 0, 1) := by decide +kernel
theorem dX11_setBase_35 : decode cX11_setBase 35 = .ok (.getfield 86, 3) := by decide +kernel
theorem dX11_setBase_38 : decode cX11_setBase 38 = .ok (.aload_n 0, 1) := by decide +kernel
theorem dX11_setBase_39 : decode cX11_setBase 39 = .ok (.getfield 80, 3) := by decide +kernel
theorem dX11_setBase_42 : decode cX11_setBase 42 = .ok (.iload_n 1, 1) := by decide +kernel
theorem dX11_setBase_43 : decode cX11_setBase 43 = .ok (.iaload, 1) := by decide +kernel
theorem dX11_setBase_44 : decode cX11_setBase 44 = .ok (.iload_n 2, 1) := by decide +kernel
theorem dX11_setBase_45 : decode cX11_setBase 45 = .ok (.iadd, 1) := by decide +kernel
theorem dX11_setBase_46 : decode cX11_setBase 46 = .ok (.iaload, 1) := by decide +kernel
theorem dX11_setBase_47 : decode cX11_setBase 47 = .ok (.iastore, 1) := by decide +kernel
theorem dX11_setBase_48 : decode cX11_setBase 48 = .ok (.iinc 2 1, 3) := by decide +kernel
theorem dX11_setBase_51 : decode cX11_setBase 51 = .ok (.goto (-37), 3) := by decide +kernel
theorem dX11_setBase_54 : decode cX11_setBase 54 = .ok (.return_, 1) := by decide +kernel
theorem dX11_hand_0 : decode cX11_hand 0 = .ok (.aload_n 0, 1) := by decide +kernel
theorem dX11_hand_1 : decode cX11_hand 1 = .ok (.iload_n 1, 1) := by decide +kernel
theorem dX11_hand_2 : decode cX11_hand 2 = .ok (.invokevirtual 263, 3) := by decide +kernel
theorem dX11_hand_5 : decode cX11_hand 5 = .ok (.ifCond .eq 12, 3) := by decide +kernel
theorem dX11_hand_8 : decode cX11_hand 8 = .ok (.aload_n 0, 1) := by decide +kernel
theorem dX11_hand_9 : decode cX11_hand 9 = .ok (.getfield 134, 3) := by decide +kernel
theorem dX11_hand_12 : decode cX11_hand 12 = .ok (.bipush 60, 2) := by decide +kernel
theorem dX11_hand_14 : decode cX11_hand 14 = .ok (.if_icmp .le 5, 3) := by decide +kernel
theorem dX11_hand_17 : decode cX11_hand 17 = .ok (.iconst 0, 1) := by decide +kernel
theorem dX11_hand_18 : decode cX11_hand 18 = .ok (.ireturn, 1) := by decide +kernel
theorem dX11_hand_19 : decode cX11_hand 19 = .ok (.aload_n 0, 1) := by decide +kernel
theorem dX11_hand_20 : decode cX11_hand 20 = .ok (.getfield 89, 3) := by decide +kernel
theorem dX11_hand_23 : decode cX11_hand 23 = .ok (.iload_n 1, 1) := by decide +kernel
theorem dX11_hand_24 : decode cX11_hand 24 = .ok (.aload_n 0, 1) := by decide +kernel
theorem dX11_hand_25 : decode cX11_hand 25 = .ok (.iload_n 1, 1) := by decide +kernel
theorem dX11_hand_26 : decode cX11_hand 26 = .ok (.aload_n 0, 1) := by decide +kernel
theorem dX11_hand_27 : decode cX11_hand 27 = .ok (.getfield 53, 3) := by decide +kernel
theorem dX11_hand_30 : decode cX11_hand 30 = .ok (.iconst 0, 1) := by decide +kernel
theorem dX11_hand_31 : decode cX11_hand 31 = .ok (.aload_n 0, 1) := by decide +kernel
theorem dX11_hand_32 : decode cX11_hand 32 = .ok (.getfield 134, 3) := by decide +kernel
theorem dX11_hand_35 : decode cX11_hand 35 = .ok (.invokevirtual 229, 3) := by decide +kernel
theorem dX11_hand_38 : decode cX11_hand 38 = .ok (.ifCond .eq 7, 3) := by decide +kernel
theorem dX11_hand_41 : decode cX11_hand 41 = .ok (.iconst (-1), 1) := by decide +kernel
theorem dX11_hand_42 : decode cX11_hand 42 = .ok (.goto 7, 3) := by decide +kernel
theorem dX11_hand_45 : decode cX11_hand 45 = .ok (.aload_n 0, 1) := by decide +kernel
theorem dX11_hand_46 : decode cX11_hand 46 = .ok (.getfield 134, 3) := by decide +kernel
theorem dX11_hand_49 : decode cX11_hand 49 = .ok (.iastore, 1) := by decide +kernel
theorem dX11_hand_50 : decode cX11_hand 50 = .ok (.iconst 0, 1) := by decide +kernel
theorem dX11_hand_51 : decode cX11_hand 51 = .ok (.istore_n 2, 1) := by decide +kernel
theorem dX11_hand_52 : decode cX11_hand 52 = .ok (.iload_n 2, 1) := by decide +kernel
theorem dX11_hand_53 : decode cX11_hand 53 = .ok (.aload_n 0, 1) := by decide +kernel
theorem dX11_hand_54 : decode cX11_hand 54 = .ok (.getfield 134, 3) := by decide +kernel
theorem dX11_hand_57 : decode cX11_hand 57 = .ok (.if_icmp .ge 26, 3) := by decide +kernel
theorem dX11_hand_60 : decode cX11_hand 60 = .ok (.aload_n 0, 1) := by decide +kernel
theorem dX11_hand_61 : decode cX11_hand 61 = .ok (.getfield 92, 3) := by decide +kernel
theorem dX11_hand_64 : decode cX11_hand 64 = .ok (.bipush 60, 2) := by decide +kernel
theorem dX11_hand_66 : decode cX11_hand 66 = .ok (.iload_n 1, 1) := by decide +kernel
theorem dX11_hand_67 : decode cX11_hand 67 = .ok (.imul, 1) := by decide +kernel
theorem dX11_hand_68 : decode cX11_hand 68 = .ok (.iload_n 2, 1) := by decide +kernel
theorem dX11_hand_69 : decode cX11_hand 69 = .ok (.iadd, 1) := by decide +kernel
theorem dX11_hand_70 : decode cX11_hand 70 = .ok (.aload_n 0, 1) := by decide +kernel
theorem dX11_hand_71 : decode cX11_hand 71 = .ok (.getfield 53, 3) := by decide +kernel
theorem dX11_hand_74 : decode cX11_hand 74 = .ok (.iload_n 2, 1) := by decide +kernel
theorem dX11_hand_75 : decode cX11_hand 75 = .ok (.iaload, 1) := by decide +kernel
theorem dX11_hand_76 : decode cX11_hand 76 = .ok (.iastore, 1) := by decide +kernel
theorem dX11_hand_77 : decode cX11_hand 77 = .ok (.iinc 2 1, 3) := by decide +kernel
theorem dX11_hand_80 : decode cX11_hand 80 = .ok (.goto (-28), 3) := by decide +kernel
theorem dX11_hand_83 : decode cX11_hand 83 = .ok (.aload_n 0, 1) := by decide +kernel
theorem dX11_hand_84 : decode cX11_hand 84 = .ok (.iload_n 1, 1) := by decide +kernel
theorem dX11_hand_85 : decode cX11_hand 85 = .ok (.invokevirtual 272, 3) := by decide +kernel
theorem dX11_hand_88 : decode cX11_hand 88 = .ok (.aload_n 0, 1) := by decide +kernel
theorem dX11_hand_89 : decode cX11_hand 89 = .ok (.getfield 102, 3) := by decide +kernel
theorem dX11_hand_92 : decode cX11_hand 92 = .ok (.iload_n 1, 1) := by decide +kernel
theorem dX11_hand_93 : decode cX11_hand 93 = .ok (.iconst 0, 1) := by decide +kernel
theorem dX11_hand_94 : decode cX11_hand 94 = .ok (.bastore, 1) := by decide +kernel
theorem dX11_hand_95 : decode cX11_hand 95 = .ok (.aload_n 0, 1) := by decide +kernel
theorem dX11_hand_96 : decode cX11_hand 96 = .ok (.iconst 0, 1) := by decide +kernel
theorem dX11_hand_97 : decode cX11_hand 97 = .ok (.putfield 134, 3) := by decide +kernel
theorem dX11_hand_100 : decode cX11_hand 100 = .ok (.iconst 1, 1) := by decide +kernel
theorem dX11_hand_101 : decode cX11_hand 101 = .ok (.ireturn, 1) := by decide +kernel
theorem dX11_take_0 : decode cX11_take 0 = .ok (.aload_n 0, 1) := by decide +kernel
theorem dX11_take_1 : decode cX11_take 1 = .ok (.iload_n 1, 1) := by decide +kernel
theorem dX11_take_2 : decode cX11_take 2 = .ok (.invokevirtual 263, 3) := by decide +kernel
theorem dX11_take_5 : decode cX11_take 5 = .ok (.ifCond .eq 21, 3) := by decide +kernel
theorem dX11_take_8 : decode cX11_take 8 = .ok (.aload_n 0, 1) := by decide +kernel
theorem dX11_take_9 : decode cX11_take 9 = .ok (.getfield 102, 3) := by decide +kernel
theorem dX11_take_12 : decode cX11_take 12 = .ok (.iload_n 1, 1) := by decide +kernel
theorem dX11_take_13 : decode cX11_take 13 = .ok (.baload, 1) := by decide +kernel
theorem dX11_take_14 : decode cX11_take 14 = .ok (.ifCond .eq 12, 3) := by decide +kernel
theorem dX11_take_17 : decode cX11_take 17 = .ok (.iload_n 2, 1) := by decide +kernel
theorem dX11_take_18 : decode cX11_take 18 = .ok (.iconst 0, 1) := by decide +kernel
theorem dX11_take_19 : decode cX11_take 19 = .ok (.iconst 1, 1) := by decide +kernel
theorem dX11_take_20 : decode cX11_take 20 = .ok (.invokestatic 130, 3) := by decide +kernel
theorem dX11_take_23 : decode cX11_take 23 = .ok (.ifCond .ne 5, 3) := by decide +kernel
theorem dX11_take_26 : decode cX11_take 26 = .ok (.iconst 0, 1) := by decide +kernel
theorem dX11_take_27 : decode cX11_take 27 = .ok (.ireturn, 1) := by decide +kernel
theorem dX11_take_28 : decode cX11_take 28 = .ok (.iload_n 2, 1) := by decide +kernel
theorem dX11_take_29 : decode cX11_take 29 = .ok (.iconst 1, 1) := by decide +kernel
theorem dX11_take_30 : decode cX11_take 30 = .ok (.if_icmp .ne 10, 3) := by decide +kernel
theorem dX11_take_33 : decode cX11_take 33 = .ok (.aload_n 0, 1) := by decide +kernel
theorem dX11_take_34 : decode cX11_take 34 = .ok (.getfield 89, 3) := by decide +kernel
theorem dX11_take_37 : decode cX11_take 37 = .ok (.iload_n 1, 1) := by decide +kernel
theorem dX11_take_38 : decode cX11_take 38 = .ok (.iconst (-1), 1) := by decide +kernel
theorem dX11_take_39 : decode cX11_take 39 = .ok (.iastore, 1) := by decide +kernel
theorem dX11_take_40 : decode cX11_take 40 = .ok (.aload_n 0, 1) := by decide +kernel
theorem dX11_take_41 : decode cX11_take 41 = .ok (.iload_n 1, 1) := by decide +kernel
theorem dX11_take_42 : decode cX11_take 42 = .ok (.invokevirtual 272, 3) := by decide +kernel
theorem dX11_take_45 : decode cX11_take 45 = .ok (.aload_n 0, 1) := by decide +kernel
theorem dX11_take_46 : decode cX11_take 46 = .ok (.getfield 102, 3) := by decide +kernel
theorem dX11_take_49 : decode cX11_take 49 = .ok (.iload_n 1, 1) := by decide +kernel
theorem dX11_take_50 : decode cX11_take 50 = .ok (.iconst 0, 1) := by decide +kernel
theorem dX11_take_51 : decode cX11_take 51 = .ok (.bastore, 1) := by decide +kernel
theorem dX11_take_52 : decode cX11_take 52 = .ok (.iconst 1, 1) := by decide +kernel
theorem dX11_take_53 : decode cX11_take 53 = .ok (.ireturn, 1) := by decide +kernel
theorem dX11_numberOf_0 : decode cX11_numberOf 0 = .ok (.aload_n 0, 1) := by decide +kernel
theorem dX11_numberOf_1 : decode cX11_numberOf 1 = .ok (.getfield 89, 3) := by decide +kernel
theorem dX11_numberOf_4 : decode cX11_numberOf 4 = .ok (.iload_n 1, 1) := by decide +kernel
theorem dX11_numberOf_5 : decode cX11_numberOf 5 = .ok (.iaload, 1) := by decide +kernel
theorem dX11_numberOf_6 : decode cX11_numberOf 6 = .ok (.istore_n 2, 1) := by decide +kernel
theorem dX11_numberOf_7 : decode cX11_numberOf 7 = .ok (.iload_n 2, 1) := by decide +kernel
theorem dX11_numberOf_8 : decode cX11_numberOf 8 = .ok (.iconst 1, 1) := by decide +kernel
theorem dX11_numberOf_9 : decode cX11_numberOf 9 = .ok (.iconst 5, 1) := by decide +kernel
theorem dX11_numberOf_10 : decode cX11_numberOf 10 = .ok (.invokestatic 130, 3) := by decide +kernel
theorem dX11_numberOf_13 : decode cX11_numberOf 13 = .ok (.ifCond .eq 22, 3) := by decide +kernel
theorem dX11_numberOf_16 : decode cX11_numberOf 16 = .ok (.iload_n 2, 1) := by decide +kernel
theorem dX11_numberOf_17 : decode cX11_numberOf 17 = .ok (.iconst 1, 1) := by decide +kernel
theorem dX11_numberOf_18 : decode cX11_numberOf 18 = .ok (.if_icmp .le 19, 3) := by decide +kernel
theorem dX11_numberOf_21 : decode cX11_numberOf 21 = .ok (.aload_n 0, 1) := by decide +kernel
theorem dX11_numberOf_22 : decode cX11_numberOf 22 = .ok (.getfield 92, 3) := by decide +kernel
theorem dX11_numberOf_25 : decode cX11_numberOf 25 = .ok (.bipush 60, 2) := by decide +kernel
theorem dX11_numberOf_27 : decode cX11_numberOf 27 = .ok (.iload_n 1, 1) := by decide +kernel
theorem dX11_numberOf_28 : decode cX11_numberOf 28 = .ok (.imul, 1) := by decide +kernel
theorem dX11_numberOf_29 : decode cX11_numberOf 29 = .ok (.iaload, 1) := by decide +kernel
theorem dX11_numberOf_30 : decode cX11_numberOf 30 = .ok (.bipush 48, 2) := by decide +kernel
theorem dX11_numberOf_32 : decode cX11_numberOf 32 = .ok (.if_icmp .ne 5, 3) := by decide +kernel
theorem dX11_numberOf_35 : decode cX11_numberOf 35 = .ok (.iconst (-1), 1) := by decide +kernel
theorem dX11_numberOf_36 : decode cX11_numberOf 36 = .ok (.ireturn, 1) := by decide +kernel
theorem dX11_numberOf_37 : decode cX11_numberOf 37 = .ok (.iconst 0, 1) := by decide +kernel
theorem dX11_numberOf_38 : decode cX11_numberOf 38 = .ok (.istore_n 3, 1) := by decide +kernel
theorem dX11_numberOf_39 : decode cX11_numberOf 39 = .ok (.iconst 0, 1) := by decide +kernel
theorem dX11_numberOf_40 : decode cX11_numberOf 40 = .ok (.istore 4, 2) := by decide +kernel
theorem dX11_numberOf_42 : decode cX11_numberOf 42 = .ok (.iload 4, 2) := by decide +kernel
theorem dX11_numberOf_44 : decode cX11_numberOf 44 = .ok (.iload_n 2, 1) := by decide +kernel
theorem dX11_numberOf_45 : decode cX11_numberOf 45 = .ok (.if_icmp .ge 48, 3) := by decide +kernel
theorem dX11_numberOf_48 : decode cX11_numberOf 48 = .ok (.aload_n 0, 1) := by decide +kernel
theorem dX11_numberOf_49 : decode cX11_numberOf 49 = .ok (.getfield 92, 3) := by decide +kernel
theorem dX11_numberOf_52 : decode cX11_numberOf 52 = .ok (.bipush 60, 2) := by decide +kernel
theorem dX11_numberOf_54 : decode cX11_numberOf 54 = .ok (.iload_n 1, 1) := by decide +kernel
theorem dX11_numberOf_55 : decode cX11_numberOf 55 = .ok (.imul, 1) := by decide +kernel
theorem dX11_numberOf_56 : decode cX11_numberOf 56 = .ok (.iload 4, 2) := by decide +kernel
theorem dX11_numberOf_58 : decode cX11_numberOf 58 = .ok (.iadd, 1) := by decide +kernel
theorem dX11_numberOf_59 : decode cX11_numberOf 59 = .ok (.iaload, 1) := by decide +kernel
theorem dX11_numberOf_60 : decode cX11_numberOf 60 = .ok (.istore 5, 2) := by decide +kernel
theorem dX11_numberOf_62 : decode cX11_numberOf 62 = .ok (.iload 5, 2) := by decide +kernel
theorem dX11_numberOf_64 : decode cX11_numberOf 64 = .ok (.bipush 48, 2) := by decide +kernel
theorem dX11_numberOf_66 : decode cX11_numberOf 66 = .ok (.bipush 57, 2) := by decide +kernel
theorem dX11_numberOf_68 : decode cX11_numberOf 68 = .ok (.invokestatic 130, 3) := by decide +kernel
theorem dX11_numberOf_71 : decode cX11_numberOf 71 = .ok (.ifCond .ne 5, 3) := by decide +kernel
theorem dX11_numberOf_74 : decode cX11_numberOf 74 = .ok (.iconst (-1), 1) := by decide +kernel
theorem dX11_numberOf_75 : decode cX11_numberOf 75 = .ok (.ireturn, 1) := by decide +kernel
theorem dX11_numberOf_76 : decode cX11_numberOf 76 = .ok (.bipush 10, 2) := by decide +kernel
theorem dX11_numberOf_78 : decode cX11_numberOf 78 = .ok (.iload_n 3, 1) := by decide +kernel
theorem dX11_numberOf_79 : decode cX11_numberOf 79 = .ok (.imul, 1) := by decide +kernel
theorem dX11_numberOf_80 : decode cX11_numberOf 80 = .ok (.iload 5, 2) := by decide +kernel
theorem dX11_numberOf_82 : decode cX11_numberOf 82 = .ok (.iadd, 1) := by decide +kernel
theorem dX11_numberOf_83 : decode cX11_numberOf 83 = .ok (.bipush 48, 2) := by decide +kernel
theorem dX11_numberOf_85 : decode cX11_numberOf 85 = .ok (.isub, 1) := by decide +kernel
theorem dX11_numberOf_86 : decode cX11_numberOf 86 = .ok (.istore_n 3, 1) := by decide +kernel
theorem dX11_numberOf_87 : decode cX11_numberOf 87 = .ok (.iinc 4 1, 3) := by decide +kernel
theorem dX11_numberOf_90 : decode cX11_numberOf 90 = .ok (.goto (-48), 3) := by decide +kernel
theorem dX11_numberOf_93 : decode cX11_numberOf 93 = .ok (.iload_n 3, 1) := by decide +kernel
theorem dX11_numberOf_94 : decode cX11_numberOf 94 = .ok (.ireturn, 1) := by decide +kernel
theorem dX11_back_0 : decode cX11_back 0 = .ok (.aload_n 0, 1) := by decide +kernel
theorem dX11_back_1 : decode cX11_back 1 = .ok (.iload_n 1, 1) := by decide +kernel
theorem dX11_back_2 : decode cX11_back 2 = .ok (.invokevirtual 263, 3) := by decide +kernel
theorem dX11_back_5 : decode cX11_back 5 = .ok (.ifCond .eq 22, 3) := by decide +kernel
theorem dX11_back_8 : decode cX11_back 8 = .ok (.aload_n 0, 1) := by decide +kernel
theorem dX11_back_9 : decode cX11_back 9 = .ok (.getfield 62, 3) := by decide +kernel
theorem dX11_back_12 : decode cX11_back 12 = .ok (.iload_n 1, 1) := by decide +kernel
theorem dX11_back_13 : decode cX11_back 13 = .ok (.iaload, 1) := by decide +kernel
theorem dX11_back_14 : decode cX11_back 14 = .ok (.iconst 2, 1) := by decide +kernel
theorem dX11_back_15 : decode cX11_back 15 = .ok (.if_icmp .ne 12, 3) := by decide +kernel
theorem dX11_back_18 : decode cX11_back 18 = .ok (.aload_n 0, 1) := by decide +kernel
theorem dX11_back_19 : decode cX11_back 19 = .ok (.iload_n 1, 1) := by decide +kernel
theorem dX11_back_20 : decode cX11_back 20 = .ok (.iconst 0, 1) := by decide +kernel
theorem dX11_back_21 : decode cX11_back 21 = .ok (.invokevirtual 275, 3) := by decide +kernel
theorem dX11_back_24 : decode cX11_back 24 = .ok (.ifCond .ge 5, 3) := by decide +kernel
theorem dX11_back_27 : decode cX11_back 27 = .ok (.iconst (-1), 1) := by decide +kernel
theorem dX11_back_28 : decode cX11_back 28 = .ok (.ireturn, 1) := by decide +kernel
theorem dX11_back_29 : decode cX11_back 29 = .ok (.aload_n 0, 1) := by decide +kernel
theorem dX11_back_30 : decode cX11_back 30 = .ok (.iload_n 1, 1) := by decide +kernel
theorem dX11_back_31 : decode cX11_back 31 = .ok (.invokevirtual 278, 3) := by decide +kernel
theorem dX11_back_34 : decode cX11_back 34 = .ok (.istore_n 2, 1) := by decide +kernel
theorem dX11_back_35 : decode cX11_back 35 = .ok (.iload_n 2, 1) := by decide +kernel
theorem dX11_back_36 : decode cX11_back 36 = .ok (.ifCond .ge 5, 3) := by decide +kernel
theorem dX11_back_39 : decode cX11_back 39 = .ok (.iconst (-1), 1) := by decide +kernel
theorem dX11_back_40 : decode cX11_back 40 = .ok (.ireturn, 1) := by decide +kernel
theorem dX11_back_41 : decode cX11_back 41 = .ok (.aload_n 0, 1) := by decide +kernel
theorem dX11_back_42 : decode cX11_back 42 = .ok (.getfield 68, 3) := by decide +kernel
theorem dX11_back_45 : decode cX11_back 45 = .ok (.iload_n 1, 1) := by decide +kernel
theorem dX11_back_46 : decode cX11_back 46 = .ok (.iaload, 1) := by decide +kernel
theorem dX11_back_47 : decode cX11_back 47 = .ok (.istore_n 3, 1) := by decide +kernel
theorem dX11_back_48 : decode cX11_back 48 = .ok (.aload_n 0, 1) := by decide +kernel
theorem dX11_back_49 : decode cX11_back 49 = .ok (.getfield 77, 3) := by decide +kernel
theorem dX11_back_52 : decode cX11_back 52 = .ok (.iload_n 1, 1) := by decide +kernel
theorem dX11_back_53 : decode cX11_back 53 = .ok (.iaload, 1) := by decide +kernel
theorem dX11_back_54 : decode cX11_back 54 = .ok (.istore 4, 2) := by decide +kernel
theorem dX11_back_56 : decode cX11_back 56 = .ok (.aload_n 0, 1) := by decide +kernel
theorem dX11_back_57 : decode cX11_back 57 = .ok (.getfield 22, 3) := by decide +kernel
theorem dX11_back_60 : decode cX11_back 60 = .ok (.iconst 4, 1) := by decide +kernel
theorem dX11_back_61 : decode cX11_back 61 = .ok (.iload 4, 2) := by decide +kernel
theorem dX11_back_63 : decode cX11_back 63 = .ok (.imul, 1) := by decide +kernel
theorem dX11_back_64 : decode cX11_back 64 = .ok (.iload_n 3, 1) := by decide +kernel
theorem dX11_back_65 : decode cX11_back 65 = .ok (.iadd, 1) := by decide +kernel
theorem dX11_back_66 : decode cX11_back 66 = .ok (.iaload, 1) := by decide +kernel
theorem dX11_back_67 : decode cX11_back 67 = .ok (.istore 5, 2) := by decide +kernel
theorem dX11_back_69 : decode cX11_back 69 = .ok (.aload_n 0, 1) := by decide +kernel
theorem dX11_back_70 : decode cX11_back 70 = .ok (.getfield 22, 3) := by decide +kernel
theorem dX11_back_73 : decode cX11_back 73 = .ok (.iconst 4, 1) := by decide +kernel
theorem dX11_back_74 : decode cX11_back 74 = .ok (.iload 4, 2) := by decide +kernel
theorem dX11_back_76 : decode cX11_back 76 = .ok (.imul, 1) := by decide +kernel
theorem dX11_back_77 : decode cX11_back 77 = .ok (.iload_n 3, 1) := by decide +kernel
theorem dX11_back_78 : decode cX11_back 78 = .ok (.iadd, 1) := by decide +kernel
theorem dX11_back_79 : decode cX11_back 79 = .ok (.iload_n 2, 1) := by decide +kernel
theorem dX11_back_80 : decode cX11_back 80 = .ok (.iastore, 1) := by decide +kernel
theorem dX11_back_81 : decode cX11_back 81 = .ok (.aload_n 0, 1) := by decide +kernel
theorem dX11_back_82 : decode cX11_back 82 = .ok (.invokevirtual 257, 3) := by decide +kernel
theorem dX11_back_85 : decode cX11_back 85 = .ok (.ifCond .ne 18, 3) := by decide +kernel
theorem dX11_back_88 : decode cX11_back 88 = .ok (.aload_n 0, 1) := by decide +kernel
theorem dX11_back_89 : decode cX11_back 89 = .ok (.getfield 22, 3) := by decide +kernel
theorem dX11_back_92 : decode cX11_back 92 = .ok (.iconst 4, 1) := by decide +kernel
theorem dX11_back_93 : decode cX11_back 93 = .ok (.iload 4, 2) := by decide +kernel
theorem dX11_back_95 : decode cX11_back 95 = .ok (.imul, 1) := by decide +kernel
theorem dX11_back_96 : decode cX11_back 96 = .ok (.iload_n 3, 1) := by decide +kernel
theorem dX11_back_97 : decode cX11_back 97 = .ok (.iadd, 1) := by decide +kernel
theorem dX11_back_98 : decode cX11_back 98 = .ok (.iload 5, 2) := by decide +kernel
theorem dX11_back_100 : decode cX11_back 100 = .ok (.iastore, 1) := by decide +kernel
theorem dX11_back_101 : decode cX11_back 101 = .ok (.iconst (-1), 1) := by decide +kernel
theorem dX11_back_102 : decode cX11_back 102 = .ok (.ireturn, 1) := by decide +kernel
theorem dX11_back_103 : decode cX11_back 103 = .ok (.aload_n 0, 1) := by decide +kernel
theorem dX11_back_104 : decode cX11_back 104 = .ok (.getfield 89, 3) := by decide +kernel
theorem dX11_back_107 : decode cX11_back 107 = .ok (.iload_n 1, 1) := by decide +kernel
theorem dX11_back_108 : decode cX11_back 108 = .ok (.iconst (-1), 1) := by decide +kernel
theorem dX11_back_109 : decode cX11_back 109 = .ok (.iastore, 1) := by decide +kernel
theorem dX11_back_110 : decode cX11_back 110 = .ok (.aload_n 0, 1) := by decide +kernel
theorem dX11_back_111 : decode cX11_back 111 = .ok (.getfield 102, 3) := by decide +kernel
theorem dX11_back_114 : decode cX11_back 114 = .ok (.iload_n 1, 1) := by decide +kernel
theorem dX11_back_115 : decode cX11_back 115 = .ok (.iconst 0, 1) := by decide +kernel
theorem dX11_back_116 : decode cX11_back 116 = .ok (.bastore, 1) := by decide +kernel
theorem dX11_back_117 : decode cX11_back 117 = .ok (.aload_n 0, 1) := by decide +kernel
theorem dX11_back_118 : decode cX11_back 118 = .ok (.invokevirtual 260, 3) := by decide +kernel
theorem dX11_back_121 : decode cX11_back 121 = .ok (.ireturn, 1) := by decide +kernel
theorem dX11_touch_0 : decode cX11_touch 0 = .ok (.aload_n 0, 1) := by decide +kernel
theorem dX11_touch_1 : decode cX11_touch 1 = .ok (.iload_n 1, 1) := by decide +kernel
theorem dX11_touch_2 : decode cX11_touch 2 = .ok (.invokevirtual 145, 3) := by decide +kernel
theorem dX11_touch_5 : decode cX11_touch 5 = .ok (.ifCond .eq 32, 3) := by decide +kernel
theorem dX11_touch_8 : decode cX11_touch 8 = .ok (.iload_n 2, 1) := by decide +kernel
theorem dX11_touch_9 : decode cX11_touch 9 = .ok (.iconst 0, 1) := by decide +kernel
theorem dX11_touch_10 : decode cX11_touch 10 = .ok (.iconst 3, 1) := by decide +kernel
theorem dX11_touch_11 : decode cX11_touch 11 = .ok (.invokestatic 130, 3) := by decide +kernel
theorem dX11_touch_14 : decode cX11_touch 14 = .ok (.ifCond .eq 23, 3) := by decide +kernel
theorem dX11_touch_17 : decode cX11_touch 17 = .ok (.iload_n 3, 1) := by decide +kernel
theorem dX11_touch_18 : decode cX11_touch 18 = .ok (.iconst 0, 1) := by decide +kernel
theorem dX11_touch_19 : decode cX11_touch 19 = .ok (.ldc 165, 2) := by decide +kernel
theorem dX11_touch_21 : decode cX11_touch 21 = .ok (.invokestatic 130, 3) := by decide +kernel
theorem dX11_touch_24 : decode cX11_touch 24 = .ok (.ifCond .eq 13, 3) := by decide +kernel
theorem dX11_touch_27 : decode cX11_touch 27 = .ok (.iload 4, 2) := by decide +kernel
theorem dX11_touch_29 : decode cX11_touch 29 = .ok (.iconst 0, 1) := by decide +kernel
theorem dX11_touch_30 : decode cX11_touch 30 = .ok (.iconst 3, 1) := by decide +kernel
theorem dX11_touch_31 : decode cX11_touch 31 = .ok (.invokestatic 130, 3) := by decide +kernel
theorem dX11_touch_34 : decode cX11_touch 34 = .ok (.ifCond .ne 5, 3) := by decide +kernel
theorem dX11_touch_37 : decode cX11_touch 37 = .ok (.iconst (-1), 1) := by decide +kernel
theorem dX11_touch_38 : decode cX11_touch 38 = .ok (.ireturn, 1) := by decide +kernel
theorem dX11_touch_39 : decode cX11_touch 39 = .ok (.aload_n 0, 1) := by decide +kernel
theorem dX11_touch_40 : decode cX11_touch 40 = .ok (.getfield 22, 3) := by decide +kernel
theorem dX11_touch_43 : decode cX11_touch 43 = .ok (.iconst 4, 1) := by decide +kernel
theorem dX11_touch_44 : decode cX11_touch 44 = .ok (.iload_n 1, 1) := by decide +kernel
theorem dX11_touch_45 : decode cX11_touch 45 = .ok (.imul, 1) := by decide +kernel
theorem dX11_touch_46 : decode cX11_touch 46 = .ok (.iload_n 2, 1) := by decide +kernel
theorem dX11_touch_47 : decode cX11_touch 47 = .ok (.iadd, 1) := by decide +kernel
theorem dX11_touch_48 : decode cX11_touch 48 = .ok (.iaload, 1) := by decide +kernel
theorem dX11_touch_49 : decode cX11_touch 49 = .ok (.istore 5, 2) := by decide +kernel
theorem dX11_touch_51 : decode cX11_touch 51 = .ok (.aload_n 0, 1) := by decide +kernel
theorem dX11_touch_52 : decode cX11_touch 52 = .ok (.getfield 22, 3) := by decide +kernel
theorem dX11_touch_55 : decode cX11_touch 55 = .ok (.iconst 4, 1) := by decide +kernel
theorem dX11_touch_56 : decode cX11_touch 56 = .ok (.iload_n 1, 1) := by decide +kernel
theorem dX11_touch_57 : decode cX11_touch 57 = .ok (.imul, 1) := by decide +kernel
theorem dX11_touch_58 : decode cX11_touch 58 = .ok (.iload_n 2, 1) := by decide +kernel
theorem dX11_touch_59 : decode cX11_touch 59 = .ok (.iadd, 1) := by decide +kernel
theorem dX11_touch_60 : decode cX11_touch 60 = .ok (.iload_n 3, 1) := by decide +kernel
theorem dX11_touch_61 : decode cX11_touch 61 = .ok (.iastore, 1) := by decide +kernel
theorem dX11_touch_62 : decode cX11_touch 62 = .ok (.aload_n 0, 1) := by decide +kernel
theorem dX11_touch_63 : decode cX11_touch 63 = .ok (.invokevirtual 257, 3) := by decide +kernel
theorem dX11_touch_66 : decode cX11_touch 66 = .ok (.istore 6, 2) := by decide +kernel
theorem dX11_touch_68 : decode cX11_touch 68 = .ok (.aload_n 0, 1) := by decide +kernel
theorem dX11_touch_69 : decode cX11_touch 69 = .ok (.getfield 22, 3) := by decide +kernel
theorem dX11_touch_72 : decode cX11_touch 72 = .ok (.iconst 4, 1) := by decide +kernel
theorem dX11_touch_73 : decode cX11_touch 73 = .ok (.iload_n 1, 1) := by decide +kernel
theorem dX11_touch_74 : decode cX11_touch 74 = .ok (.imul, 1) := by decide +kernel
theorem dX11_touch_75 : decode cX11_touch 75 = .ok (.iload_n 2, 1) := by decide +kernel
theorem dX11_touch_76 : decode cX11_touch 76 = .ok (.iadd, 1) := by decide +kernel
theorem dX11_touch_77 : decode cX11_touch 77 = .ok (.iload 5, 2) := by decide +kernel
theorem dX11_touch_79 : decode cX11_touch 79 = .ok (.iastore, 1) := by decide +kernel
theorem dX11_touch_80 : decode cX11_touch 80 = .ok (.iload 6, 2) := by decide +kernel
theorem dX11_touch_82 : decode cX11_touch 82 = .ok (.ifCond .ne 5, 3) := by decide +kernel
theorem dX11_touch_85 : decode cX11_touch 85 = .ok (.iconst (-1), 1) := by decide +kernel
theorem dX11_touch_86 : decode cX11_touch 86 = .ok (.ireturn, 1) := by decide +kernel
theorem dX11_touch_87 : decode cX11_touch 87 = .ok (.aload_n 0, 1) := by decide +kernel
theorem dX11_touch_88 : decode cX11_touch 88 = .ok (.invokevirtual 248, 3) := by decide +kernel
theorem dX11_touch_91 : decode cX11_touch 91 = .ok (.istore 7, 2) := by decide +kernel
theorem dX11_touch_93 : decode cX11_touch 93 = .ok (.iload 4, 2) := by decide +kernel
theorem dX11_touch_95 : decode cX11_touch 95 = .ok (.iconst 2, 1) := by decide +kernel
theorem dX11_touch_96 : decode cX11_touch 96 = .ok (.if_icmp .ne 6, 3) := by decide +kernel
theorem dX11_touch_99 : decode cX11_touch 99 = .ok (.iload 7, 2) := by decide +kernel
theorem dX11_touch_101 : decode cX11_touch 101 = .ok (.ireturn, 1) := by decide +kernel
theorem dX11_touch_102 : decode cX11_touch 102 = .ok (.iload 4, 2) := by decide +kernel
theorem dX11_touch_104 : decode cX11_touch 104 = .ok (.iconst 3, 1) := by decide +kernel
theorem dX11_touch_105 : decode cX11_touch 105 = .ok (.if_icmp .ne 10, 3) := by decide +kernel
theorem dX11_touch_108 : decode cX11_touch 108 = .ok (.aload_n 0, 1) := by decide +kernel
theorem dX11_touch_109 : decode cX11_touch 109 = .ok (.getfield 56, 3) := by decide +kernel
theorem dX11_touch_112 : decode cX11_touch 112 = .ok (.iconst 1, 1) := by decide +kernel
theorem dX11_touch_113 : decode cX11_touch 113 = .ok (.iaload, 1) := by decide +kernel
theorem dX11_touch_114 : decode cX11_touch 114 = .ok (.ireturn, 1) := by decide +kernel
theorem dX11_touch_115 : decode cX11_touch 115 = .ok (.iconst 0, 1) := by decide +kernel
theorem dX11_touch_116 : decode cX11_touch 116 = .ok (.istore 8, 2) := by decide +kernel
theorem dX11_touch_118 : decode cX11_touch 118 = .ok (.aload_n 0, 1) := by decide +kernel
theorem dX11_touch_119 : decode cX11_touch 119 = .ok (.getfield 56, 3) := by decide +kernel
theorem dX11_touch_122 : decode cX11_touch 122 = .ok (.iconst 0, 1) := by decide +kernel
end
section
theorem dX11_touch_123 : decode cX11_touch 123 = .ok (.iaload, 1) := by decide +kernel
theorem dX11_touch_124 : decode cX11_touch 124 = .ok (.aload_n 0, 1) := by decide +kernel
theorem dX11_touch_125 : decode cX11_touch 125 = .ok (.getfield 56, 3) := by decide +kernel
theorem dX11_touch_128 : decode cX11_touch 128 = .ok (.iconst 1, 1) := by decide +kernel
theorem dX11_touch_129 : decode cX11_touch 129 = .ok (.iaload, 1) := by decide +kernel
theorem dX11_touch_130 : decode cX11_touch 130 = .ok (.if_icmp .le 19, 3) := by decide +kernel
theorem dX11_touch_133 : decode cX11_touch 133 = .ok (.aload_n 0, 1) := by decide +kernel
theorem dX11_touch_134 : decode cX11_touch 134 = .ok (.getfield 56, 3) := by decide +kernel
theorem dX11_touch_137 : decode cX11_touch 137 = .ok (.iconst 0, 1) := by decide +kernel
theorem dX11_touch_138 : decode cX11_touch 138 = .ok (.iaload, 1) := by decide +kernel
theorem dX11_touch_139 : decode cX11_touch 139 = .ok (.aload_n 0, 1) := by decide +kernel
theorem dX11_touch_140 : decode cX11_touch 140 = .ok (.getfield 56, 3) := by decide +kernel
theorem dX11_touch_143 : decode cX11_touch 143 = .ok (.iconst 1, 1) := by decide +kernel
theorem dX11_touch_144 : decode cX11_touch 144 = .ok (.iaload, 1) := by decide +kernel
theorem dX11_touch_145 : decode cX11_touch 145 = .ok (.isub, 1) := by decide +kernel
theorem dX11_touch_146 : decode cX11_touch 146 = .ok (.goto 16, 3) := by decide +kernel
theorem dX11_touch_149 : decode cX11_touch 149 = .ok (.aload_n 0, 1) := by decide +kernel
theorem dX11_touch_150 : decode cX11_touch 150 = .ok (.getfield 56, 3) := by decide +kernel
theorem dX11_touch_153 : decode cX11_touch 153 = .ok (.iconst 1, 1) := by decide +kernel
theorem dX11_touch_154 : decode cX11_touch 154 = .ok (.iaload, 1) := by decide +kernel
theorem dX11_touch_155 : decode cX11_touch 155 = .ok (.aload_n 0, 1) := by decide +kernel
theorem dX11_touch_156 : decode cX11_touch 156 = .ok (.getfield 56, 3) := by decide +kernel
theorem dX11_touch_159 : decode cX11_touch 159 = .ok (.iconst 0, 1) := by decide +kernel
theorem dX11_touch_160 : decode cX11_touch 160 = .ok (.iaload, 1) := by decide +kernel
theorem dX11_touch_161 : decode cX11_touch 161 = .ok (.isub, 1) := by decide +kernel
theorem dX11_touch_162 : decode cX11_touch 162 = .ok (.istore 9, 2) := by decide +kernel
theorem dX11_touch_164 : decode cX11_touch 164 = .ok (.iconst 0, 1) := by decide +kernel
theorem dX11_touch_165 : decode cX11_touch 165 = .ok (.istore 10, 2) := by decide +kernel
theorem dX11_touch_167 : decode cX11_touch 167 = .ok (.iload 10, 2) := by decide +kernel
theorem dX11_touch_169 : decode cX11_touch 169 = .ok (.aload_n 0, 1) := by decide +kernel
theorem dX11_touch_170 : decode cX11_touch 170 = .ok (.getfield 56, 3) := by decide +kernel
theorem dX11_touch_173 : decode cX11_touch 173 = .ok (.iconst 1, 1) := by decide +kernel
theorem dX11_touch_174 : decode cX11_touch 174 = .ok (.iaload, 1) := by decide +kernel
theorem dX11_touch_175 : decode cX11_touch 175 = .ok (.if_icmp .ge 62, 3) := by decide +kernel
theorem dX11_touch_178 : decode cX11_touch 178 = .ok (.iload 8, 2) := by decide +kernel
theorem dX11_touch_180 : decode cX11_touch 180 = .ok (.aload_n 0, 1) := by decide +kernel
theorem dX11_touch_181 : decode cX11_touch 181 = .ok (.getfield 102, 3) := by decide +kernel
theorem dX11_touch_184 : decode cX11_touch 184 = .ok (.sipush 250, 3) := by decide +kernel
theorem dX11_touch_187 : decode cX11_touch 187 = .ok (.iload 10, 2) := by decide +kernel
theorem dX11_touch_189 : decode cX11_touch 189 = .ok (.iadd, 1) := by decide +kernel
theorem dX11_touch_190 : decode cX11_touch 190 = .ok (.baload, 1) := by decide +kernel
theorem dX11_touch_191 : decode cX11_touch 191 = .ok (.ifCond .eq 7, 3) := by decide +kernel
theorem dX11_touch_194 : decode cX11_touch 194 = .ok (.iconst 1, 1) := by decide +kernel
theorem dX11_touch_195 : decode cX11_touch 195 = .ok (.goto 4, 3) := by decide +kernel
theorem dX11_touch_198 : decode cX11_touch 198 = .ok (.iconst 0, 1) := by decide +kernel
theorem dX11_touch_199 : decode cX11_touch 199 = .ok (.iadd, 1) := by decide +kernel
theorem dX11_touch_200 : decode cX11_touch 200 = .ok (.istore 8, 2) := by decide +kernel
theorem dX11_touch_202 : decode cX11_touch 202 = .ok (.iload 10, 2) := by decide +kernel
theorem dX11_touch_204 : decode cX11_touch 204 = .ok (.aload_n 0, 1) := by decide +kernel
theorem dX11_touch_205 : decode cX11_touch 205 = .ok (.getfield 56, 3) := by decide +kernel
theorem dX11_touch_208 : decode cX11_touch 208 = .ok (.iconst 0, 1) := by decide +kernel
theorem dX11_touch_209 : decode cX11_touch 209 = .ok (.iaload, 1) := by decide +kernel
theorem dX11_touch_210 : decode cX11_touch 210 = .ok (.if_icmp .ge 21, 3) := by decide +kernel
theorem dX11_touch_213 : decode cX11_touch 213 = .ok (.aload_n 0, 1) := by decide +kernel
theorem dX11_touch_214 : decode cX11_touch 214 = .ok (.iload 10, 2) := by decide +kernel
theorem dX11_touch_216 : decode cX11_touch 216 = .ok (.sipush 250, 3) := by decide +kernel
theorem dX11_touch_219 : decode cX11_touch 219 = .ok (.iload 10, 2) := by decide +kernel
theorem dX11_touch_221 : decode cX11_touch 221 = .ok (.iadd, 1) := by decide +kernel
theorem dX11_touch_222 : decode cX11_touch 222 = .ok (.invokevirtual 281, 3) := by decide +kernel
theorem dX11_touch_225 : decode cX11_touch 225 = .ok (.ifCond .ne 6, 3) := by decide +kernel
theorem dX11_touch_228 : decode cX11_touch 228 = .ok (.iinc 9 1, 3) := by decide +kernel
theorem dX11_touch_231 : decode cX11_touch 231 = .ok (.iinc 10 1, 3) := by decide +kernel
theorem dX11_touch_234 : decode cX11_touch 234 = .ok (.goto (-67), 3) := by decide +kernel
theorem dX11_touch_237 : decode cX11_touch 237 = .ok (.iload 4, 2) := by decide +kernel
theorem dX11_touch_239 : decode cX11_touch 239 = .ok (.ifCond .ne 8, 3) := by decide +kernel
theorem dX11_touch_242 : decode cX11_touch 242 = .ok (.iload 9, 2) := by decide +kernel
theorem dX11_touch_244 : decode cX11_touch 244 = .ok (.goto 5, 3) := by decide +kernel
theorem dX11_touch_247 : decode cX11_touch 247 = .ok (.iload 8, 2) := by decide +kernel
theorem dX11_touch_249 : decode cX11_touch 249 = .ok (.ireturn, 1) := by decide +kernel
theorem dX11_isShownAlike_0 : decode cX11_isShownAlike 0 = .ok (.aload_n 0, 1) := by decide +kernel
theorem dX11_isShownAlike_1 : decode cX11_isShownAlike 1 = .ok (.iload_n 1, 1) := by decide +kernel
theorem dX11_isShownAlike_2 : decode cX11_isShownAlike 2 = .ok (.invokevirtual 266, 3) := by decide +kernel
theorem dX11_isShownAlike_5 : decode cX11_isShownAlike 5 = .ok (.aload_n 0, 1) := by decide +kernel
theorem dX11_isShownAlike_6 : decode cX11_isShownAlike 6 = .ok (.iload_n 2, 1) := by decide +kernel
theorem dX11_isShownAlike_7 : decode cX11_isShownAlike 7 = .ok (.invokevirtual 266, 3) := by decide +kernel
theorem dX11_isShownAlike_10 : decode cX11_isShownAlike 10 = .ok (.if_icmp .eq 5, 3) := by decide +kernel
theorem dX11_isShownAlike_13 : decode cX11_isShownAlike 13 = .ok (.iconst 0, 1) := by decide +kernel
theorem dX11_isShownAlike_14 : decode cX11_isShownAlike 14 = .ok (.ireturn, 1) := by decide +kernel
theorem dX11_isShownAlike_15 : decode cX11_isShownAlike 15 = .ok (.iconst 0, 1) := by decide +kernel
theorem dX11_isShownAlike_16 : decode cX11_isShownAlike 16 = .ok (.istore_n 3, 1) := by decide +kernel
theorem dX11_isShownAlike_17 : decode cX11_isShownAlike 17 = .ok (.iload_n 3, 1) := by decide +kernel
theorem dX11_isShownAlike_18 : decode cX11_isShownAlike 18 = .ok (.aload_n 0, 1) := by decide +kernel
theorem dX11_isShownAlike_19 : decode cX11_isShownAlike 19 = .ok (.iload_n 1, 1) := by decide +kernel
theorem dX11_isShownAlike_20 : decode cX11_isShownAlike 20 = .ok (.invokevirtual 266, 3) := by decide +kernel
theorem dX11_isShownAlike_23 : decode cX11_isShownAlike 23 = .ok (.if_icmp .ge 26, 3) := by decide +kernel
theorem dX11_isShownAlike_26 : decode cX11_isShownAlike 26 = .ok (.aload_n 0, 1) := by decide +kernel
theorem dX11_isShownAlike_27 : decode cX11_isShownAlike 27 = .ok (.iload_n 1, 1) := by decide +kernel
theorem dX11_isShownAlike_28 : decode cX11_isShownAlike 28 = .ok (.iload_n 3, 1) := by decide +kernel
theorem dX11_isShownAlike_29 : decode cX11_isShownAlike 29 = .ok (.invokevirtual 269, 3) := by decide +kernel
theorem dX11_isShownAlike_32 : decode cX11_isShownAlike 32 = .ok (.aload_n 0, 1) := by decide +kernel
theorem dX11_isShownAlike_33 : decode cX11_isShownAlike 33 = .ok (.iload_n 2, 1) := by decide +kernel
theorem dX11_isShownAlike_34 : decode cX11_isShownAlike 34 = .ok (.iload_n 3, 1) := by decide +kernel
theorem dX11_isShownAlike_35 : decode cX11_isShownAlike 35 = .ok (.invokevirtual 269, 3) := by decide +kernel
theorem dX11_isShownAlike_38 : decode cX11_isShownAlike 38 = .ok (.if_icmp .eq 5, 3) := by decide +kernel
theorem dX11_isShownAlike_41 : decode cX11_isShownAlike 41 = .ok (.iconst 0, 1) := by decide +kernel
theorem dX11_isShownAlike_42 : decode cX11_isShownAlike 42 = .ok (.ireturn, 1) := by decide +kernel
theorem dX11_isShownAlike_43 : decode cX11_isShownAlike 43 = .ok (.iinc 3 1, 3) := by decide +kernel
theorem dX11_isShownAlike_46 : decode cX11_isShownAlike 46 = .ok (.goto (-29), 3) := by decide +kernel
theorem dX11_isShownAlike_49 : decode cX11_isShownAlike 49 = .ok (.iconst 1, 1) := by decide +kernel
theorem dX11_isShownAlike_50 : decode cX11_isShownAlike 50 = .ok (.ireturn, 1) := by decide +kernel
theorem dX11_pieceAt_0 : decode cX11_pieceAt 0 = .ok (.iload_n 1, 1) := by decide +kernel
theorem dX11_pieceAt_1 : decode cX11_pieceAt 1 = .ok (.istore_n 2, 1) := by decide +kernel
theorem dX11_pieceAt_2 : decode cX11_pieceAt 2 = .ok (.iconst 0, 1) := by decide +kernel
theorem dX11_pieceAt_3 : decode cX11_pieceAt 3 = .ok (.istore_n 3, 1) := by decide +kernel
theorem dX11_pieceAt_4 : decode cX11_pieceAt 4 = .ok (.iload_n 3, 1) := by decide +kernel
theorem dX11_pieceAt_5 : decode cX11_pieceAt 5 = .ok (.aload_n 0, 1) := by decide +kernel
theorem dX11_pieceAt_6 : decode cX11_pieceAt 6 = .ok (.getfield 56, 3) := by decide +kernel
theorem dX11_pieceAt_9 : decode cX11_pieceAt 9 = .ok (.iconst 0, 1) := by decide +kernel
theorem dX11_pieceAt_10 : decode cX11_pieceAt 10 = .ok (.iaload, 1) := by decide +kernel
theorem dX11_pieceAt_11 : decode cX11_pieceAt 11 = .ok (.if_icmp .ge 37, 3) := by decide +kernel
theorem dX11_pieceAt_14 : decode cX11_pieceAt 14 = .ok (.iload_n 1, 1) := by decide +kernel
theorem dX11_pieceAt_15 : decode cX11_pieceAt 15 = .ok (.ifCond .lt 33, 3) := by decide +kernel
theorem dX11_pieceAt_18 : decode cX11_pieceAt 18 = .ok (.iload_n 2, 1) := by decide +kernel
theorem dX11_pieceAt_19 : decode cX11_pieceAt 19 = .ok (.aload_n 0, 1) := by decide +kernel
theorem dX11_pieceAt_20 : decode cX11_pieceAt 20 = .ok (.iload_n 3, 1) := by decide +kernel
theorem dX11_pieceAt_21 : decode cX11_pieceAt 21 = .ok (.invokevirtual 266, 3) := by decide +kernel
theorem dX11_pieceAt_24 : decode cX11_pieceAt 24 = .ok (.if_icmp .ge 10, 3) := by decide +kernel
theorem dX11_pieceAt_27 : decode cX11_pieceAt 27 = .ok (.aload_n 0, 1) := by decide +kernel
theorem dX11_pieceAt_28 : decode cX11_pieceAt 28 = .ok (.iload_n 2, 1) := by decide +kernel
theorem dX11_pieceAt_29 : decode cX11_pieceAt 29 = .ok (.putfield 284, 3) := by decide +kernel
theorem dX11_pieceAt_32 : decode cX11_pieceAt 32 = .ok (.iload_n 3, 1) := by decide +kernel
theorem dX11_pieceAt_33 : decode cX11_pieceAt 33 = .ok (.ireturn, 1) := by decide +kernel
theorem dX11_pieceAt_34 : decode cX11_pieceAt 34 = .ok (.iload_n 2, 1) := by decide +kernel
theorem dX11_pieceAt_35 : decode cX11_pieceAt 35 = .ok (.aload_n 0, 1) := by decide +kernel
theorem dX11_pieceAt_36 : decode cX11_pieceAt 36 = .ok (.iload_n 3, 1) := by decide +kernel
theorem dX11_pieceAt_37 : decode cX11_pieceAt 37 = .ok (.invokevirtual 266, 3) := by decide +kernel
theorem dX11_pieceAt_40 : decode cX11_pieceAt 40 = .ok (.isub, 1) := by decide +kernel
theorem dX11_pieceAt_41 : decode cX11_pieceAt 41 = .ok (.istore_n 2, 1) := by decide +kernel
theorem dX11_pieceAt_42 : decode cX11_pieceAt 42 = .ok (.iinc 3 1, 3) := by decide +kernel
theorem dX11_pieceAt_45 : decode cX11_pieceAt 45 = .ok (.goto (-41), 3) := by decide +kernel
theorem dX11_pieceAt_48 : decode cX11_pieceAt 48 = .ok (.iconst (-1), 1) := by decide +kernel
theorem dX11_pieceAt_49 : decode cX11_pieceAt 49 = .ok (.ireturn, 1) := by decide +kernel
theorem dX11_text_0 : decode cX11_text 0 = .ok (.aload_n 0, 1) := by decide +kernel
theorem dX11_text_1 : decode cX11_text 1 = .ok (.iload_n 1, 1) := by decide +kernel
theorem dX11_text_2 : decode cX11_text 2 = .ok (.invokevirtual 287, 3) := by decide +kernel
theorem dX11_text_5 : decode cX11_text 5 = .ok (.istore_n 2, 1) := by decide +kernel
theorem dX11_text_6 : decode cX11_text 6 = .ok (.iload_n 2, 1) := by decide +kernel
theorem dX11_text_7 : decode cX11_text 7 = .ok (.ifCond .ge 7, 3) := by decide +kernel
theorem dX11_text_10 : decode cX11_text 10 = .ok (.iconst (-1), 1) := by decide +kernel
theorem dX11_text_11 : decode cX11_text 11 = .ok (.goto 12, 3) := by decide +kernel
theorem dX11_text_14 : decode cX11_text 14 = .ok (.aload_n 0, 1) := by decide +kernel
theorem dX11_text_15 : decode cX11_text 15 = .ok (.iload_n 2, 1) := by decide +kernel
theorem dX11_text_16 : decode cX11_text 16 = .ok (.aload_n 0, 1) := by decide +kernel
theorem dX11_text_17 : decode cX11_text 17 = .ok (.getfield 284, 3) := by decide +kernel
theorem dX11_text_20 : decode cX11_text 20 = .ok (.invokevirtual 269, 3) := by decide +kernel
theorem dX11_text_23 : decode cX11_text 23 = .ok (.ireturn, 1) := by decide +kernel
theorem dX11_maker_0 : decode cX11_maker 0 = .ok (.aload_n 0, 1) := by decide +kernel
theorem dX11_maker_1 : decode cX11_maker 1 = .ok (.iload_n 1, 1) := by decide +kernel
theorem dX11_maker_2 : decode cX11_maker 2 = .ok (.invokevirtual 287, 3) := by decide +kernel
theorem dX11_maker_5 : decode cX11_maker 5 = .ok (.ireturn, 1) := by decide +kernel
theorem dX11_lone_0 : decode cX11_lone 0 = .ok (.iload_n 1, 1) := by decide +kernel
theorem dX11_lone_1 : decode cX11_lone 1 = .ok (.iconst 0, 1) := by decide +kernel
theorem dX11_lone_2 : decode cX11_lone 2 = .ok (.aload_n 0, 1) := by decide +kernel
theorem dX11_lone_3 : decode cX11_lone 3 = .ok (.getfield 239, 3) := by decide +kernel
theorem dX11_lone_6 : decode cX11_lone 6 = .ok (.iconst 1, 1) := by decide +kernel
theorem dX11_lone_7 : decode cX11_lone 7 = .ok (.isub, 1) := by decide +kernel
theorem dX11_lone_8 : decode cX11_lone 8 = .ok (.invokestatic 130, 3) := by decide +kernel
theorem dX11_lone_11 : decode cX11_lone 11 = .ok (.ifCond .ne 5, 3) := by decide +kernel
theorem dX11_lone_14 : decode cX11_lone 14 = .ok (.iconst (-1), 1) := by decide +kernel
theorem dX11_lone_15 : decode cX11_lone 15 = .ok (.ireturn, 1) := by decide +kernel
theorem dX11_lone_16 : decode cX11_lone 16 = .ok (.iload_n 2, 1) := by decide +kernel
theorem dX11_lone_17 : decode cX11_lone 17 = .ok (.tableswitch 84 0 3 #[31, 63, 70, 77], 31) := by decide +kernel
theorem dX11_lone_48 : decode cX11_lone 48 = .ok (.iload_n 3, 1) := by decide +kernel
theorem dX11_lone_49 : decode cX11_lone 49 = .ok (.iconst 0, 1) := by decide +kernel
theorem dX11_lone_50 : decode cX11_lone 50 = .ok (.aload_n 0, 1) := by decide +kernel
theorem dX11_lone_51 : decode cX11_lone 51 = .ok (.getfield 124, 3) := by decide +kernel
theorem dX11_lone_54 : decode cX11_lone 54 = .ok (.iload_n 1, 1) := by decide +kernel
theorem dX11_lone_55 : decode cX11_lone 55 = .ok (.iaload, 1) := by decide +kernel
theorem dX11_lone_56 : decode cX11_lone 56 = .ok (.iconst 1, 1) := by decide +kernel
theorem dX11_lone_57 : decode cX11_lone 57 = .ok (.isub, 1) := by decide +kernel
theorem dX11_lone_58 : decode cX11_lone 58 = .ok (.invokestatic 130, 3) := by decide +kernel
theorem dX11_lone_61 : decode cX11_lone 61 = .ok (.ifCond .eq 17, 3) := by decide +kernel
theorem dX11_lone_64 : decode cX11_lone 64 = .ok (.aload_n 0, 1) := by decide +kernel
theorem dX11_lone_65 : decode cX11_lone 65 = .ok (.getfield 127, 3) := by decide +kernel
theorem dX11_lone_68 : decode cX11_lone 68 = .ok (.bipush 60, 2) := by decide +kernel
theorem dX11_lone_70 : decode cX11_lone 70 = .ok (.iload_n 1, 1) := by decide +kernel
theorem dX11_lone_71 : decode cX11_lone 71 = .ok (.imul, 1) := by decide +kernel
theorem dX11_lone_72 : decode cX11_lone 72 = .ok (.iload_n 3, 1) := by decide +kernel
theorem dX11_lone_73 : decode cX11_lone 73 = .ok (.iadd, 1) := by decide +kernel
theorem dX11_lone_74 : decode cX11_lone 74 = .ok (.iaload, 1) := by decide +kernel
theorem dX11_lone_75 : decode cX11_lone 75 = .ok (.goto 4, 3) := by decide +kernel
theorem dX11_lone_78 : decode cX11_lone 78 = .ok (.iconst (-1), 1) := by decide +kernel
theorem dX11_lone_79 : decode cX11_lone 79 = .ok (.ireturn, 1) := by decide +kernel
theorem dX11_lone_80 : decode cX11_lone 80 = .ok (.aload_n 0, 1) := by decide +kernel
theorem dX11_lone_81 : decode cX11_lone 81 = .ok (.getfield 118, 3) := by decide +kernel
theorem dX11_lone_84 : decode cX11_lone 84 = .ok (.iload_n 1, 1) := by decide +kernel
theorem dX11_lone_85 : decode cX11_lone 85 = .ok (.iaload, 1) := by decide +kernel
theorem dX11_lone_86 : decode cX11_lone 86 = .ok (.ireturn, 1) := by decide +kernel
theorem dX11_lone_87 : decode cX11_lone 87 = .ok (.aload_n 0, 1) := by decide +kernel
theorem dX11_lone_88 : decode cX11_lone 88 = .ok (.getfield 121, 3) := by decide +kernel
theorem dX11_lone_91 : decode cX11_lone 91 = .ok (.iload_n 1, 1) := by decide +kernel
theorem dX11_lone_92 : decode cX11_lone 92 = .ok (.iaload, 1) := by decide +kernel
theorem dX11_lone_93 : decode cX11_lone 93 = .ok (.ireturn, 1) := by decide +kernel
theorem dX11_lone_94 : decode cX11_lone 94 = .ok (.aload_n 0, 1) := by decide +kernel
theorem dX11_lone_95 : decode cX11_lone 95 = .ok (.getfield 124, 3) := by decide +kernel
theorem dX11_lone_98 : decode cX11_lone 98 = .ok (.iload_n 1, 1) := by decide +kernel
theorem dX11_lone_99 : decode cX11_lone 99 = .ok (.iaload, 1) := by decide +kernel
theorem dX11_lone_100 : decode cX11_lone 100 = .ok (.ireturn, 1) := by decide +kernel
theorem dX11_lone_101 : decode cX11_lone 101 = .ok (.iconst (-1), 1) := by decide +kernel
theorem dX11_lone_102 : decode cX11_lone 102 = .ok (.ireturn, 1) := by decide +kernel
theorem dX11_drops_0 : decode cX11_drops 0 = .ok (.iload_n 1, 1) := by decide +kernel
theorem dX11_drops_1 : decode cX11_drops 1 = .ok (.iconst 0, 1) := by decide +kernel
theorem dX11_drops_2 : decode cX11_drops 2 = .ok (.aload_n 0, 1) := by decide +kernel
theorem dX11_drops_3 : decode cX11_drops 3 = .ok (.getfield 239, 3) := by decide +kernel
theorem dX11_drops_6 : decode cX11_drops 6 = .ok (.iconst 1, 1) := by decide +kernel
theorem dX11_drops_7 : decode cX11_drops 7 = .ok (.isub, 1) := by decide +kernel
theorem dX11_drops_8 : decode cX11_drops 8 = .ok (.invokestatic 130, 3) := by decide +kernel
theorem dX11_drops_11 : decode cX11_drops 11 = .ok (.ifCond .ne 5, 3) := by decide +kernel
theorem dX11_drops_14 : decode cX11_drops 14 = .ok (.iconst 0, 1) := by decide +kernel
theorem dX11_drops_15 : decode cX11_drops 15 = .ok (.ireturn, 1) := by decide +kernel
theorem dX11_drops_16 : decode cX11_drops 16 = .ok (.aload_n 0, 1) := by decide +kernel
theorem dX11_drops_17 : decode cX11_drops 17 = .ok (.iload_n 1, 1) := by decide +kernel
theorem dX11_drops_18 : decode cX11_drops 18 = .ok (.invokevirtual 242, 3) := by decide +kernel
theorem dX11_drops_21 : decode cX11_drops 21 = .ok (.iconst 1, 1) := by decide +kernel
theorem dX11_drops_22 : decode cX11_drops 22 = .ok (.ireturn, 1) := by decide +kernel
theorem dX11_thingOf_0 : decode cX11_thingOf 0 = .ok (.aload_n 0, 1) := by decide +kernel
theorem dX11_thingOf_1 : decode cX11_thingOf 1 = .ok (.iload_n 1, 1) := by decide +kernel
theorem dX11_thingOf_2 : decode cX11_thingOf 2 = .ok (.invokevirtual 145, 3) := by decide +kernel
theorem dX11_thingOf_5 : decode cX11_thingOf 5 = .ok (.ifCond .ne 5, 3) := by decide +kernel
theorem dX11_thingOf_8 : decode cX11_thingOf 8 = .ok (.iconst (-1), 1) := by decide +kernel
theorem dX11_thingOf_9 : decode cX11_thingOf 9 = .ok (.ireturn, 1) := by decide +kernel
theorem dX11_thingOf_10 : decode cX11_thingOf 10 = .ok (.iload_n 2, 1) := by decide +kernel
theorem dX11_thingOf_11 : decode cX11_thingOf 11 = .ok (.bipush 10, 2) := by decide +kernel
theorem dX11_thingOf_13 : decode cX11_thingOf 13 = .ok (.bipush 13, 2) := by decide +kernel
theorem dX11_thingOf_15 : decode cX11_thingOf 15 = .ok (.invokestatic 130, 3) := by decide +kernel
theorem dX11_thingOf_18 : decode cX11_thingOf 18 = .ok (.ifCond .eq 17, 3) := by decide +kernel
theorem dX11_thingOf_21 : decode cX11_thingOf 21 = .ok (.aload_n 0, 1) := by decide +kernel
theorem dX11_thingOf_22 : decode cX11_thingOf 22 = .ok (.getfield 22, 3) := by decide +kernel
theorem dX11_thingOf_25 : decode cX11_thingOf 25 = .ok (.iconst 4, 1) := by decide +kernel
theorem dX11_thingOf_26 : decode cX11_thingOf 26 = .ok (.iload_n 1, 1) := by decide +kernel
theorem dX11_thingOf_27 : decode cX11_thingOf 27 = .ok (.imul, 1) := by decide +kernel
theorem dX11_thingOf_28 : decode cX11_thingOf 28 = .ok (.iload_n 2, 1) := by decide +kernel
theorem dX11_thingOf_29 : decode cX11_thingOf 29 = .ok (.iadd, 1) := by decide +kernel
theorem dX11_thingOf_30 : decode cX11_thingOf 30 = .ok (.bipush 10, 2) := by decide +kernel
theorem dX11_thingOf_32 : decode cX11_thingOf 32 = .ok (.isub, 1) := by decide +kernel
theorem dX11_thingOf_33 : decode cX11_thingOf 33 = .ok (.iaload, 1) := by decide +kernel
theorem dX11_thingOf_34 : decode cX11_thingOf 34 = .ok (.ireturn, 1) := by decide +kernel
theorem dX11_thingOf_35 : decode cX11_thingOf 35 = .ok (.iload_n 2, 1) := by decide +kernel
theorem dX11_thingOf_36 : decode cX11_thingOf 36 = .ok (.bipush 100, 2) := by decide +kernel
theorem dX11_thingOf_38 : decode cX11_thingOf 38 = .ok (.if_icmp .lt 35, 3) := by decide +kernel
theorem dX11_thingOf_41 : decode cX11_thingOf 41 = .ok (.iload_n 2, 1) := by decide +kernel
theorem dX11_thingOf_42 : decode cX11_thingOf 42 = .ok (.bipush 100, 2) := by decide +kernel
theorem dX11_thingOf_44 : decode cX11_thingOf 44 = .ok (.isub, 1) := by decide +kernel
theorem dX11_thingOf_45 : decode cX11_thingOf 45 = .ok (.aload_n 0, 1) := by decide +kernel
theorem dX11_thingOf_46 : decode cX11_thingOf 46 = .ok (.getfield 28, 3) := by decide +kernel
theorem dX11_thingOf_49 : decode cX11_thingOf 49 = .ok (.iload_n 1, 1) := by decide +kernel
theorem dX11_thingOf_50 : decode cX11_thingOf 50 = .ok (.iaload, 1) := by decide +kernel
theorem dX11_thingOf_51 : decode cX11_thingOf 51 = .ok (.if_icmp .ge 20, 3) := by decide +kernel
theorem dX11_thingOf_54 : decode cX11_thingOf 54 = .ok (.aload_n 0, 1) := by decide +kernel
theorem dX11_thingOf_55 : decode cX11_thingOf 55 = .ok (.getfield 25, 3) := by decide +kernel
theorem dX11_thingOf_58 : decode cX11_thingOf 58 = .ok (.bipush 6, 2) := by decide +kernel
theorem dX11_thingOf_60 : decode cX11_thingOf 60 = .ok (.iload_n 1, 1) := by decide +kernel
theorem dX11_thingOf_61 : decode cX11_thingOf 61 = .ok (.imul, 1) := by decide +kernel
theorem dX11_thingOf_62 : decode cX11_thingOf 62 = .ok (.iload_n 2, 1) := by decide +kernel
theorem dX11_thingOf_63 : decode cX11_thingOf 63 = .ok (.iadd, 1) := by decide +kernel
theorem dX11_thingOf_64 : decode cX11_thingOf 64 = .ok (.bipush 100, 2) := by decide +kernel
theorem dX11_thingOf_66 : decode cX11_thingOf 66 = .ok (.isub, 1) := by decide +kernel
theorem dX11_thingOf_67 : decode cX11_thingOf 67 = .ok (.iaload, 1) := by decide +kernel
theorem dX11_thingOf_68 : decode cX11_thingOf 68 = .ok (.goto 4, 3) := by decide +kernel
theorem dX11_thingOf_71 : decode cX11_thingOf 71 = .ok (.iconst (-1), 1) := by decide +kernel
theorem dX11_thingOf_72 : decode cX11_thingOf 72 = .ok (.ireturn, 1) := by decide +kernel
theorem dX11_thingOf_73 : decode cX11_thingOf 73 = .ok (.iload_n 2, 1) := by decide +kernel
theorem dX11_thingOf_74 : decode cX11_thingOf 74 = .ok (.ifCond .ne 12, 3) := by decide +kernel
theorem dX11_thingOf_77 : decode cX11_thingOf 77 = .ok (.aload_n 0, 1) := by decide +kernel
theorem dX11_thingOf_78 : decode cX11_thingOf 78 = .ok (.getfield 13, 3) := by decide +kernel
theorem dX11_thingOf_81 : decode cX11_thingOf 81 = .ok (.iload_n 1, 1) := by decide +kernel
theorem dX11_thingOf_82 : decode cX11_thingOf 82 = .ok (.iaload, 1) := by decide +kernel
theorem dX11_thingOf_83 : decode cX11_thingOf 83 = .ok (.goto 46, 3) := by decide +kernel
theorem dX11_thingOf_86 : decode cX11_thingOf 86 = .ok (.iload_n 2, 1) := by decide +kernel
theorem dX11_thingOf_87 : decode cX11_thingOf 87 = .ok (.iconst 1, 1) := by decide +kernel
theorem dX11_thingOf_88 : decode cX11_thingOf 88 = .ok (.if_icmp .ne 12, 3) := by decide +kernel
theorem dX11_thingOf_91 : decode cX11_thingOf 91 = .ok (.aload_n 0, 1) := by decide +kernel
theorem dX11_thingOf_92 : decode cX11_thingOf 92 = .ok (.getfield 16, 3) := by decide +kernel
theorem dX11_thingOf_95 : decode cX11_thingOf 95 = .ok (.iload_n 1, 1) := by decide +kernel
theorem dX11_thingOf_96 : decode cX11_thingOf 96 = .ok (.iaload, 1) := by decide +kernel
theorem dX11_thingOf_97 : decode cX11_thingOf 97 = .ok (.goto 32, 3) := by decide +kernel
theorem dX11_thingOf_100 : decode cX11_thingOf 100 = .ok (.iload_n 2, 1) := by decide +kernel
theorem dX11_thingOf_101 : decode cX11_thingOf 101 = .ok (.iconst 2, 1) := by decide +kernel
theorem dX11_thingOf_102 : decode cX11_thingOf 102 = .ok (.if_icmp .ne 12, 3) := by decide +kernel
theorem dX11_thingOf_105 : decode cX11_thingOf 105 = .ok (.aload_n 0, 1) := by decide +kernel
theorem dX11_thingOf_106 : decode cX11_thingOf 106 = .ok (.getfield 19, 3) := by decide +kernel
theorem dX11_thingOf_109 : decode cX11_thingOf 109 = .ok (.iload_n 1, 1) := by decide +kernel
theorem dX11_thingOf_110 : decode cX11_thingOf 110 = .ok (.iaload, 1) := by decide +kernel
theorem dX11_thingOf_111 : decode cX11_thingOf 111 = .ok (.goto 18, 3) := by decide +kernel
theorem dX11_thingOf_114 : decode cX11_thingOf 114 = .ok (.iload_n 2, 1) := by decide +kernel
theorem dX11_thingOf_115 : decode cX11_thingOf 115 = .ok (.iconst 3, 1) := by decide +kernel
theorem dX11_thingOf_116 : decode cX11_thingOf 116 = .ok (.if_icmp .ne 12, 3) := by decide +kernel
theorem dX11_thingOf_119 : decode cX11_thingOf 119 = .ok (.aload_n 0, 1) := by decide +kernel
theorem dX11_thingOf_120 : decode cX11_thingOf 120 = .ok (.getfield 28, 3) := by decide +kernel
theorem dX11_thingOf_123 : decode cX11_thingOf 123 = .ok (.iload_n 1, 1) := by decide +kernel
theorem dX11_thingOf_124 : decode cX11_thingOf 124 = .ok (.iaload, 1) := by decide +kernel
theorem dX11_thingOf_125 : decode cX11_thingOf 125 = .ok (.goto 4, 3) := by decide +kernel
theorem dX11_thingOf_128 : decode cX11_thingOf 128 = .ok (.iconst (-1), 1) := by decide +kernel
theorem dX11_thingOf_129 : decode cX11_thingOf 129 = .ok (.ireturn, 1) := by decide +kernel
theorem dX11_about_0 : decode cX11_about 0 = .ok (.iload_n 1, 1) := by decide +kernel
theorem dX11_about_1 : decode cX11_about 1 = .ok (.bipush 10, 2) := by decide +kernel
theorem dX11_about_3 : decode cX11_about 3 = .ok (.bipush 17, 2) := by decide +kernel
theorem dX11_about_5 : decode cX11_about 5 = .ok (.invokestatic 130, 3) := by decide +kernel
theorem dX11_about_8 : decode cX11_about 8 = .ok (.ifCond .eq 13, 3) := by decide +kernel
theorem dX11_about_11 : decode cX11_about 11 = .ok (.aload_n 0, 1) := by decide +kernel
theorem dX11_about_12 : decode cX11_about 12 = .ok (.getfield 31, 3) := by decide +kernel
theorem dX11_about_15 : decode cX11_about 15 = .ok (.iload_n 1, 1) := by decide +kernel
theorem dX11_about_16 : decode cX11_about 16 = .ok (.bipush 10, 2) := by decide +kernel
theorem dX11_about_18 : decode cX11_about 18 = .ok (.isub, 1) := by decide +kernel
theorem dX11_about_19 : decode cX11_about 19 = .ok (.iaload, 1) := by decide +kernel
theorem dX11_about_20 : decode cX11_about 20 = .ok (.ireturn, 1) := by decide +kernel
theorem dX11_about_21 : decode cX11_about 21 = .ok (.iconst 0, 1) := by decide +kernel
theorem dX11_about_22 : decode cX11_about 22 = .ok (.istore_n 2, 1) := by decide +kernel
theorem dX11_about_23 : decode cX11_about 23 = .ok (.iconst 0, 1) := by decide +kernel
theorem dX11_about_24 : decode cX11_about 24 = .ok (.istore_n 3, 1) := by decide +kernel
theorem dX11_about_25 : decode cX11_about 25 = .ok (.iconst 0, 1) := by decide +kernel
theorem dX11_about_26 : decode cX11_about 26 = .ok (.istore 4, 2) := by decide +kernel
theorem dX11_about_28 : decode cX11_about 28 = .ok (.iload 4, 2) := by decide +kernel
theorem dX11_about_30 : decode cX11_about 30 = .ok (.aload_n 0, 1) := by decide +kernel
theorem dX11_about_31 : decode cX11_about 31 = .ok (.getfield 56, 3) := by decide +kernel
theorem dX11_about_34 : decode cX11_about 34 = .ok (.iconst 0, 1) := by decide +kernel
theorem dX11_about_35 : decode cX11_about 35 = .ok (.iaload, 1) := by decide +kernel
theorem dX11_about_36 : decode cX11_about 36 = .ok (.if_icmp .ge 36, 3) := by decide +kernel
theorem dX11_about_39 : decode cX11_about 39 = .ok (.iload_n 2, 1) := by decide +kernel
theorem dX11_about_40 : decode cX11_about 40 = .ok (.aload_n 0, 1) := by decide +kernel
theorem dX11_about_41 : decode cX11_about 41 = .ok (.iload 4, 2) := by decide +kernel
theorem dX11_about_43 : decode cX11_about 43 = .ok (.invokevirtual 266, 3) := by decide +kernel
theorem dX11_about_46 : decode cX11_about 46 = .ok (.iadd, 1) := by decide +kernel
theorem dX11_about_47 : decode cX11_about 47 = .ok (.istore_n 2, 1) := by decide +kernel
theorem dX11_about_48 : decode cX11_about 48 = .ok (.iload_n 3, 1) := by decide +kernel
theorem dX11_about_49 : decode cX11_about 49 = .ok (.aload_n 0, 1) := by decide +kernel
theorem dX11_about_50 : decode cX11_about 50 = .ok (.getfield 102, 3) := by decide +kernel
theorem dX11_about_53 : decode cX11_about 53 = .ok (.iload 4, 2) := by decide +kernel
theorem dX11_about_55 : decode cX11_about 55 = .ok (.baload, 1) := by decide +kernel
theorem dX11_about_56 : decode cX11_about 56 = .ok (.ifCond .eq 7, 3) := by decide +kernel
theorem dX11_about_59 : decode cX11_about 59 = .ok (.iconst 1, 1) := by decide +kernel
theorem dX11_about_60 : decode cX11_about 60 = .ok (.goto 4, 3) := by decide +kernel
theorem dX11_about_63 : decode cX11_about 63 = .ok (.iconst 0, 1) := by decide +kernel
theorem dX11_about_64 : decode cX11_about 64 = .ok (.iadd, 1) := by decide +kernel
theorem dX11_about_65 : decode cX11_about 65 = .ok (.istore_n 3, 1) := by decide +kernel
theorem dX11_about_66 : decode cX11_about 66 = .ok (.iinc 4 1, 3) := by decide +kernel
theorem dX11_about_69 : decode cX11_about 69 = .ok (.goto (-41), 3) := by decide +kernel
theorem dX11_about_72 : decode cX11_about 72 = .ok (.iload_n 1, 1) := by decide +kernel
theorem dX11_about_73 : decode cX11_about 73 = .ok (.tableswitch 74 0 6 #[43, 48, 55, 57, 59, 64, 69], 43) := by decide +kernel
theorem dX11_about_116 : decode cX11_about 116 = .ok (.aload_n 0, 1) := by decide +kernel
theorem dX11_about_117 : decode cX11_about 117 = .ok (.getfield 153, 3) := by decide +kernel
theorem dX11_about_120 : decode cX11_about 120 = .ok (.ireturn, 1) := by decide +kernel
theorem dX11_about_121 : decode cX11_about 121 = .ok (.aload_n 0, 1) := by decide +kernel
theorem dX11_about_122 : decode cX11_about 122 = .ok (.getfield 56, 3) := by decide +kernel
theorem dX11_about_125 : decode cX11_about 125 = .ok (.iconst 0, 1) := by decide +kernel
theorem dX11_about_126 : decode cX11_about 126 = .ok (.iaload, 1) := by decide +kernel
theorem dX11_about_127 : decode cX11_about 127 = .ok (.ireturn, 1) := by decide +kernel
theorem dX11_about_128 : decode cX11_about 128 = .ok (.iload_n 2, 1) := by decide +kernel
theorem dX11_about_129 : decode cX11_about 129 = .ok (.ireturn, 1) := by decide +kernel
theorem dX11_about_130 : decode cX11_about 130 = .ok (.iload_n 3, 1) := by decide +kernel
theorem dX11_about_131 : decode cX11_about 131 = .ok (.ireturn, 1) := by decide +kernel
theorem dX11_about_132 : decode cX11_about 132 = .ok (.aload_n 0, 1) := by decide +kernel
theorem dX11_about_133 : decode cX11_about 133 = .ok (.getfield 239, 3) := by decide +kernel
theorem dX11_about_136 : decode cX11_about 136 = .ok (.ireturn, 1) := by decide +kernel
theorem dX11_about_137 : decode cX11_about 137 = .ok (.aload_n 0, 1) := by decide +kernel
theorem dX11_about_138 : decode cX11_about 138 = .ok (.getfield 245, 3) := by decide +kernel
theorem dX11_about_141 : decode cX11_about 141 = .ok (.ireturn, 1) := by decide +kernel
theorem dX11_about_142 : decode cX11_about 142 = .ok (.aload_n 0, 1) := by decide +kernel
theorem dX11_about_143 : decode cX11_about 143 = .ok (.getfield 134, 3) := by decide +kernel
theorem dX11_about_146 : decode cX11_about 146 = .ok (.ireturn, 1) := by decide +kernel
theorem dX11_about_147 : decode cX11_about 147 = .ok (.iconst (-1), 1) := by decide +kernel
theorem dX11_about_148 : decode cX11_about 148 = .ok (.ireturn, 1) := by decide +kernel
theorem dJ9_max_7cf53_0 : decode cJ9_max_7cf53 0 = .ok (.iload_n 0, 1) := by decide +kernel
theorem dJ9_max_7cf53_1 : decode cJ9_max_7cf53 1 = .ok (.iload_n 1, 1) := by decide +kernel
theorem dJ9_max_7cf53_2 : decode cJ9_max_7cf53 2 = .ok (.if_icmp .lt 7, 3) := by decide +kernel
theorem dJ9_max_7cf53_5 : decode cJ9_max_7cf53 5 = .ok (.iload_n 0, 1) := by decide +kernel
theorem dJ9_max_7cf53_6 : decode cJ9_max_7cf53 6 = .ok (.goto 4, 3) := by decide +kernel
theorem dJ9_max_7cf53_9 : decode cJ9_max_7cf53 9 = .ok (.iload_n 1, 1) := by decide +kernel
theorem dJ9_max_7cf53_10 : decode cJ9_max_7cf53 10 = .ok (.ireturn, 1) := by decide +kernel
theorem dJ9_min_7cf53_0 : decode cJ9_min_7cf53 0 = .ok (.iload_n 0, 1) := by decide +kernel
theorem dJ9_min_7cf53_1 : decode cJ9_min_7cf53 1 = .ok (.iload_n 1, 1) := by decide +kernel
theorem dJ9_min_7cf53_2 : decode cJ9_min_7cf53 2 = .ok (.if_icmp .gt 7, 3) := by decide +kernel
theorem dJ9_min_7cf53_5 : decode cJ9_min_7cf53 5 = .ok (.iload_n 0, 1) := by decide +kernel
theorem dJ9_min_7cf53_6 : decode cJ9_min_7cf53 6 = .ok (.goto 4, 3) := by decide +kernel
theorem dJ9_min_7cf53_9 : decode cJ9_min_7cf53 9 = .ok (.iload_n 1, 1) := by decide +kernel
theorem dJ9_min_7cf53_10 : decode cJ9_min_7cf53 10 = .ok (.ireturn, 1) := by decide +kernel
theorem dJxa1e45_init_da8c8_0 : decode cJxa1e45_init_da8c8 0 = .ok (.aload_n 0, 1) := by decide +kernel
theorem dJxa1e45_init_da8c8_1 : decode cJxa1e45_init_da8c8 1 = .ok (.invokespecial 1, 3) := by decide +kernel
theorem dJxa1e45_init_da8c8_4 : decode cJxa1e45_init_da8c8 4 = .ok (.return_, 1) := by decide +kernel
theorem dJxc12de_init_da8c8_0 : decode cJxc12de_init_da8c8 0 = .ok (.aload_n 0, 1) := by decide +kernel
theorem dJxc12de_init_da8c8_1 : decode cJxc12de_init_da8c8 1 = .ok (.invokespecial 1, 3) := by decide +kernel
theorem dJxc12de_init_da8c8_4 : decode cJxc12de_init_da8c8 4 = .ok (.aload_n 0, 1) := by decide +kernel
theorem dJxc12de_init_da8c8_5 : decode cJxc12de_init_da8c8 5 = .ok (.iconst 0, 1) := by decide +kernel
theorem dJxc12de_init_da8c8_6 : decode cJxc12de_init_da8c8 6 = .ok (.putfield 7, 3) := by decide +kernel
theorem dJxc12de_init_da8c8_9 : decode cJxc12de_init_da8c8 9 = .ok (.return_, 1) := by decide +kernel
theorem dJx4a65c_init_da8c8_0 : decode cJx4a65c_init_da8c8 0 = .ok (.aload_n 0, 1) := by decide +kernel
theorem dJx4a65c_init_da8c8_1 : decode cJx4a65c_init_da8c8 1 = .ok (.invokespecial 1, 3) := by decide +kernel
theorem dJx4a65c_init_da8c8_4 : decode cJx4a65c_init_da8c8 4 = .ok (.aload_n 0, 1) := by decide +kernel
theorem dJx4a65c_init_da8c8_5 : decode cJx4a65c_init_da8c8 5 = .ok (.getstatic 39, 3) := by decide +kernel
theorem dJx4a65c_init_da8c8_8 : decode cJx4a65c_init_da8c8 8 = .ok (.putfield 9, 3) := by decide +kernel
theorem dJx4a65c_init_da8c8_11 : decode cJx4a65c_init_da8c8 11 = .ok (.return_, 1) := by decide +kernel
theorem dJx4a65c_grow_92f84_0 : decode cJx4a65c_grow_92f84 0 = .ok (.aload_n 0, 1) := by decide +kernel
theorem dJx4a65c_grow_92f84_1 : decode cJx4a65c_grow_92f84 1 = .ok (.getfield 9, 3) := by decide +kernel
theorem dJx4a65c_grow_92f84_4 : decode cJx4a65c_grow_92f84 4 = .ok (.arraylength, 1) := by decide +kernel
theorem dJx4a65c_grow_92f84_5 : decode cJx4a65c_grow_92f84 5 = .ok (.istore_n 2, 1) := by decide +kernel
theorem dJx4a65c_grow_92f84_6 : decode cJx4a65c_grow_92f84 6 = .ok (.iload_n 2, 1) := by decide +kernel
theorem dJx4a65c_grow_92f84_7 : decode cJx4a65c_grow_92f84 7 = .ok (.ifCond .gt 13, 3) := by decide +kernel
theorem dJx4a65c_grow_92f84_10 : decode cJx4a65c_grow_92f84 10 = .ok (.aload_n 0, 1) := by decide +kernel
theorem dJx4a65c_grow_92f84_11 : decode cJx4a65c_grow_92f84 11 = .ok (.getfield 9, 3) := by decide +kernel
theorem dJx4a65c_grow_92f84_14 : decode cJx4a65c_grow_92f84 14 = .ok (.getstatic 39, 3) := by decide +kernel
theorem dJx4a65c_grow_92f84_17 : decode cJx4a65c_grow_92f84 17 = .ok (.if_acmp .eq 28, 3) := by decide +kernel
theorem dJx4a65c_grow_92f84_20 : decode cJx4a65c_grow_92f84 20 = .ok (.iload_n 2, 1) := by decide +kernel
theorem dJx4a65c_grow_92f84_21 : decode cJx4a65c_grow_92f84 21 = .ok (.iload_n 1, 1) := by decide +kernel
theorem dJx4a65c_grow_92f84_22 : decode cJx4a65c_grow_92f84 22 = .ok (.iload_n 2, 1) := by decide +kernel
theorem dJx4a65c_grow_92f84_23 : decode cJx4a65c_grow_92f84 23 = .ok (.isub, 1) := by decide +kernel
theorem dJx4a65c_grow_92f84_24 : decode cJx4a65c_grow_92f84 24 = .ok (.iload_n 2, 1) := by decide +kernel
theorem dJx4a65c_grow_92f84_25 : decode cJx4a65c_grow_92f84 25 = .ok (.iconst 1, 1) := by decide +kernel
theorem dJx4a65c_grow_92f84_26 : decode cJx4a65c_grow_92f84 26 = .ok (.ishr, 1) := by decide +kernel
theorem dJx4a65c_grow_92f84_27 : decode cJx4a65c_grow_92f84 27 = .ok (.invokestatic 73, 3) := by decide +kernel
theorem dJx4a65c_grow_92f84_30 : decode cJx4a65c_grow_92f84 30 = .ok (.istore_n 3, 1) := by decide +kernel
theorem dJx4a65c_grow_92f84_31 : decode cJx4a65c_grow_92f84 31 = .ok (.aload_n 0, 1) := by decide +kernel
theorem dJx4a65c_grow_92f84_32 : decode cJx4a65c_grow_92f84 32 = .ok (.aload_n 0, 1) := by decide +kernel
theorem dJx4a65c_grow_92f84_33 : decode cJx4a65c_grow_92f84 33 = .ok (.getfield 9, 3) := by decide +kernel
theorem dJx4a65c_grow_92f84_36 : decode cJx4a65c_grow_92f84 36 = .ok (.iload_n 3, 1) := by decide +kernel
theorem dJx4a65c_grow_92f84_37 : decode cJx4a65c_grow_92f84 37 = .ok (.invokestatic 66, 3) := by decide +kernel
theorem dJx4a65c_grow_92f84_40 : decode cJx4a65c_grow_92f84 40 = .ok (.dup_x1, 1) := by decide +kernel
theorem dJx4a65c_grow_92f84_41 : decode cJx4a65c_grow_92f84 41 = .ok (.putfield 9, 3) := by decide +kernel
theorem dJx4a65c_grow_92f84_44 : decode cJx4a65c_grow_92f84 44 = .ok (.areturn, 1) := by decide +kernel
theorem dJx4a65c_grow_92f84_45 : decode cJx4a65c_grow_92f84 45 = .ok (.aload_n 0, 1) := by decide +kernel
theorem dJx4a65c_grow_92f84_46 : decode cJx4a65c_grow_92f84 46 = .ok (.bipush 10, 2) := by decide +kernel
theorem dJx4a65c_grow_92f84_48 : decode cJx4a65c_grow_92f84 48 = .ok (.iload_n 1, 1) := by decide +kernel
theorem dJx4a65c_grow_92f84_49 : decode cJx4a65c_grow_92f84 49 = .ok (.invokestatic 79, 3) := by decide +kernel
theorem dJx4a65c_grow_92f84_52 : decode cJx4a65c_grow_92f84 52 = .ok (.anewarray 7, 3) := by decide +kernel
theorem dJx4a65c_grow_92f84_55 : decode cJx4a65c_grow_92f84 55 = .ok (.dup_x1, 1) := by decide +kernel
theorem dJx4a65c_grow_92f84_56 : decode cJx4a65c_grow_92f84 56 = .ok (.putfield 9, 3) := by decide +kernel
theorem dJx4a65c_grow_92f84_59 : decode cJx4a65c_grow_92f84 59 = .ok (.areturn, 1) := by decide +kernel
theorem dJx4a65c_grow_d5877_0 : decode cJx4a65c_grow_d5877 0 = .ok (.aload_n 0, 1) := by decide +kernel
theorem dJx4a65c_grow_d5877_1 : decode cJx4a65c_grow_d5877 1 = .ok (.aload_n 0, 1) := by decide +kernel
theorem dJx4a65c_grow_d5877_2 : decode cJx4a65c_grow_d5877 2 = .ok (.getfield 48, 3) := by decide +kernel
theorem dJx4a65c_grow_d5877_5 : decode cJx4a65c_grow_d5877 5 = .ok (.iconst 1, 1) := by decide +kernel
theorem dJx4a65c_grow_d5877_6 : decode cJx4a65c_grow_d5877 6 = .ok (.iadd, 1) := by decide +kernel
theorem dJx4a65c_grow_d5877_7 : decode cJx4a65c_grow_d5877 7 = .ok (.invokevirtual 69, 3) := by decide +kernel
theorem dJx4a65c_grow_d5877_10 : decode cJx4a65c_grow_d5877 10 = .ok (.areturn, 1) := by decide +kernel
theorem dJx4a65c_size_8abf5_0 : decode cJx4a65c_size_8abf5 0 = .ok (.aload_n 0, 1) := by decide +kernel
theorem dJx4a65c_size_8abf5_1 : decode cJx4a65c_size_8abf5 1 = .ok (.getfield 48, 3) := by decide +kernel
theorem dJx4a65c_size_8abf5_4 : decode cJx4a65c_size_8abf5 4 = .ok (.ireturn, 1) := by decide +kernel
theorem dJx4a65c_elementData_915e3_0 : decode cJx4a65c_elementData_915e3 0 = .ok (.aload_n 0, 1) := by decide +kernel
theorem dJx4a65c_elementData_915e3_1 : decode cJx4a65c_elementData_915e3 1 = .ok (.getfield 9, 3) := by decide +kernel
theorem dJx4a65c_elementData_915e3_4 : decode cJx4a65c_elementData_915e3 4 = .ok (.iload_n 1, 1) := by decide +kernel
theorem dJx4a65c_elementData_915e3_5 : decode cJx4a65c_elementData_915e3 5 = .ok (.aaload, 1) := by decide +kernel
theorem dJx4a65c_elementData_915e3_6 : decode cJx4a65c_elementData_915e3 6 = .ok (.areturn, 1) := by decide +kernel
theorem dJx4a65c_get_915e3_0 : decode cJx4a65c_get_915e3 0 = .ok (.iload_n 1, 1) := by decide +kernel
theorem dJx4a65c_get_915e3_1 : decode cJx4a65c_get_915e3 1 = .ok (.aload_n 0, 1) := by decide +kernel
theorem dJx4a65c_get_915e3_2 : decode cJx4a65c_get_915e3 2 = .ok (.getfield 48, 3) := by decide +kernel
theorem dJx4a65c_get_915e3_5 : decode cJx4a65c_get_915e3 5 = .ok (.invokestatic 118, 3) := by decide +kernel
theorem dJx4a65c_get_915e3_8 : decode cJx4a65c_get_915e3 8 = .ok (.pop, 1) := by decide +kernel
theorem dJx4a65c_get_915e3_9 : decode cJx4a65c_get_915e3 9 = .ok (.aload_n 0, 1) := by decide +kernel
theorem dJx4a65c_get_915e3_10 : decode cJx4a65c_get_915e3 10 = .ok (.iload_n 1, 1) := by decide +kernel
theorem dJx4a65c_get_915e3_11 : decode cJx4a65c_get_915e3 11 = .ok (.invokevirtual 123, 3) := by decide +kernel
theorem dJx4a65c_get_915e3_14 : decode cJx4a65c_get_915e3 14 = .ok (.areturn, 1) := by decide +kernel
theorem dJx4a65c_add_72be8_0 : decode cJx4a65c_add_72be8 0 = .ok (.iload_n 3, 1) := by decide +kernel
theorem dJx4a65c_add_72be8_1 : decode cJx4a65c_add_72be8 1 = .ok (.aload_n 2, 1) := by decide +kernel
theorem dJx4a65c_add_72be8_2 : decode cJx4a65c_add_72be8 2 = .ok (.arraylength, 1) := by decide +kernel
theorem dJx4a65c_add_72be8_3 : decode cJx4a65c_add_72be8 3 = .ok (.if_icmp .ne 8, 3) := by decide +kernel
theorem dJx4a65c_add_72be8_6 : decode cJx4a65c_add_72be8 6 = .ok (.aload_n 0, 1) := by decide +kernel
theorem dJx4a65c_add_72be8_7 : decode cJx4a65c_add_72be8 7 = .ok (.invokevirtual 129, 3) := by decide +kernel
theorem dJx4a65c_add_72be8_10 : decode cJx4a65c_add_72be8 10 = .ok (.astore_n 2, 1) := by decide +kernel
theorem dJx4a65c_add_72be8_11 : decode cJx4a65c_add_72be8 11 = .ok (.aload_n 2, 1) := by decide +kernel
theorem dJx4a65c_add_72be8_12 : decode cJx4a65c_add_72be8 12 = .ok (.iload_n 3, 1) := by decide +kernel
theorem dJx4a65c_add_72be8_13 : decode cJx4a65c_add_72be8 13 = .ok (.aload_n 1, 1) := by decide +kernel
theorem dJx4a65c_add_72be8_14 : decode cJx4a65c_add_72be8 14 = .ok (.aastore, 1) := by decide +kernel
theorem dJx4a65c_add_72be8_15 : decode cJx4a65c_add_72be8 15 = .ok (.aload_n 0, 1) := by decide +kernel
theorem dJx4a65c_add_72be8_16 : decode cJx4a65c_add_72be8 16 = .ok (.iload_n 3, 1) := by decide +kernel
theorem dJx4a65c_add_72be8_17 : decode cJx4a65c_add_72be8 17 = .ok (.iconst 1, 1) := by decide +kernel
theorem dJx4a65c_add_72be8_18 : decode cJx4a65c_add_72be8 18 = .ok (.iadd, 1) := by decide +kernel
theorem dJx4a65c_add_72be8_19 : decode cJx4a65c_add_72be8 19 = .ok (.putfield 48, 3) := by decide +kernel
theorem dJx4a65c_add_72be8_22 : decode cJx4a65c_add_72be8 22 = .ok (.return_, 1) := by decide +kernel
theorem dJx4a65c_add_9ea2d_0 : decode cJx4a65c_add_9ea2d 0 = .ok (.aload_n 0, 1) := by decide +kernel
theorem dJx4a65c_add_9ea2d_1 : decode cJx4a65c_add_9ea2d 1 = .ok (.dup, 1) := by decide +kernel
theorem dJx4a65c_add_9ea2d_2 : decode cJx4a65c_add_9ea2d 2 = .ok (.getfield 63, 3) := by decide +kernel
theorem dJx4a65c_add_9ea2d_5 : decode cJx4a65c_add_9ea2d 5 = .ok (.iconst 1, 1) := by decide +kernel
theorem dJx4a65c_add_9ea2d_6 : decode cJx4a65c_add_9ea2d 6 = .ok (.iadd, 1) := by decide +kernel
theorem dJx4a65c_add_9ea2d_7 : decode cJx4a65c_add_9ea2d 7 = .ok (.putfield 63, 3) := by decide +kernel
theorem dJx4a65c_add_9ea2d_10 : decode cJx4a65c_add_9ea2d 10 = .ok (.aload_n 0, 1) := by decide +kernel
theorem dJx4a65c_add_9ea2d_11 : decode cJx4a65c_add_9ea2d 11 = .ok (.aload_n 1, 1) := by decide +kernel
theorem dJx4a65c_add_9ea2d_12 : decode cJx4a65c_add_9ea2d 12 = .ok (.aload_n 0, 1) := by decide +kernel
theorem dJx4a65c_add_9ea2d_13 : decode cJx4a65c_add_9ea2d 13 = .ok (.getfield 9, 3) := by decide +kernel
theorem dJx4a65c_add_9ea2d_16 : decode cJx4a65c_add_9ea2d 16 = .ok (.aload_n 0, 1) := by decide +kernel
theorem dJx4a65c_add_9ea2d_17 : decode cJx4a65c_add_9ea2d 17 = .ok (.getfield 48, 3) := by decide +kernel
theorem dJx4a65c_add_9ea2d_20 : decode cJx4a65c_add_9ea2d 20 = .ok (.invokevirtual 131, 3) := by decide +kernel
theorem dJx4a65c_add_9ea2d_23 : decode cJx4a65c_add_9ea2d 23 = .ok (.iconst 1, 1) := by decide +kernel
theorem dJx4a65c_add_9ea2d_24 : decode cJx4a65c_add_9ea2d 24 = .ok (.ireturn, 1) := by decide +kernel
theorem dJx4a65c_add_7a177_0 : decode cJx4a65c_add_7a177 0 = .ok (.aload_n 0, 1) := by decide +kernel
theorem dJx4a65c_add_7a177_1 : decode cJx4a65c_add_7a177 1 = .ok (.iload_n 1, 1) := by decide +kernel
theorem dJx4a65c_add_7a177_2 : decode cJx4a65c_add_7a177 2 = .ok (.invokevirtual 135, 3) := by decide +kernel
theorem dJx4a65c_add_7a177_5 : decode cJx4a65c_add_7a177 5 = .ok (.aload_n 0, 1) := by decide +kernel
theorem dJx4a65c_add_7a177_6 : decode cJx4a65c_add_7a177 6 = .ok (.dup, 1) := by decide +kernel
theorem dJx4a65c_add_7a177_7 : decode cJx4a65c_add_7a177 7 = .ok (.getfield 63, 3) := by decide +kernel
theorem dJx4a65c_add_7a177_10 : decode cJx4a65c_add_7a177 10 = .ok (.iconst 1, 1) := by decide +kernel
theorem dJx4a65c_add_7a177_11 : decode cJx4a65c_add_7a177 11 = .ok (.iadd, 1) := by decide +kernel
theorem dJx4a65c_add_7a177_12 : decode cJx4a65c_add_7a177 12 = .ok (.putfield 63, 3) := by decide +kernel
theorem dJx4a65c_add_7a177_15 : decode cJx4a65c_add_7a177 15 = .ok (.aload_n 0, 1) := by decide +kernel
theorem dJx4a65c_add_7a177_16 : decode cJx4a65c_add_7a177 16 = .ok (.getfield 48, 3) := by decide +kernel
theorem dJx4a65c_add_7a177_19 : decode cJx4a65c_add_7a177 19 = .ok (.dup, 1) := by decide +kernel
theorem dJx4a65c_add_7a177_20 : decode cJx4a65c_add_7a177 20 = .ok (.istore_n 3, 1) := by decide +kernel
theorem dJx4a65c_add_7a177_21 : decode cJx4a65c_add_7a177 21 = .ok (.aload_n 0, 1) := by decide +kernel
theorem dJx4a65c_add_7a177_22 : decode cJx4a65c_add_7a177 22 = .ok (.getfield 9, 3) := by decide +kernel
theorem dJx4a65c_add_7a177_25 : decode cJx4a65c_add_7a177 25 = .ok (.dup, 1) := by decide +kernel
theorem dJx4a65c_add_7a177_26 : decode cJx4a65c_add_7a177 26 = .ok (.astore 4, 2) := by decide +kernel
theorem dJx4a65c_add_7a177_28 : decode cJx4a65c_add_7a177 28 = .ok (.arraylength, 1) := by decide +kernel
theorem dJx4a65c_add_7a177_29 : decode cJx4a65c_add_7a177 29 = .ok (.if_icmp .ne 9, 3) := by decide +kernel
theorem dJx4a65c_add_7a177_32 : decode cJx4a65c_add_7a177 32 = .ok (.aload_n 0, 1) := by decide +kernel
theorem dJx4a65c_add_7a177_33 : decode cJx4a65c_add_7a177 33 = .ok (.invokevirtual 129, 3) := by decide +kernel
theorem dJx4a65c_add_7a177_36 : decode cJx4a65c_add_7a177 36 = .ok (.astore 4, 2) := by decide +kernel
theorem dJx4a65c_add_7a177_38 : decode cJx4a65c_add_7a177 38 = .ok (.aload 4, 2) := by decide +kernel
theorem dJx4a65c_add_7a177_40 : decode cJx4a65c_add_7a177 40 = .ok (.iload_n 1, 1) := by decide +kernel
theorem dJx4a65c_add_7a177_41 : decode cJx4a65c_add_7a177 41 = .ok (.aload 4, 2) := by decide +kernel
theorem dJx4a65c_add_7a177_43 : decode cJx4a65c_add_7a177 43 = .ok (.iload_n 1, 1) := by decide +kernel
theorem dJx4a65c_add_7a177_44 : decode cJx4a65c_add_7a177 44 = .ok (.iconst 1, 1) := by decide +kernel
theorem dJx4a65c_add_7a177_45 : decode cJx4a65c_add_7a177 45 = .ok (.iadd, 1) := by decide +kernel
theorem dJx4a65c_add_7a177_46 : decode cJx4a65c_add_7a177 46 = .ok (.iload_n 3, 1) := by decide +kernel
theorem dJx4a65c_add_7a177_47 : decode cJx4a65c_add_7a177 47 = .ok (.iload_n 1, 1) := by decide +kernel
theorem dJx4a65c_add_7a177_48 : decode cJx4a65c_add_7a177 48 = .ok (.isub, 1) := by decide +kernel
theorem dJx4a65c_add_7a177_49 : decode cJx4a65c_add_7a177 49 = .ok (.invokestatic 112, 3) := by decide +kernel
theorem dJx4a65c_add_7a177_52 : decode cJx4a65c_add_7a177 52 = .ok (.aload 4, 2) := by decide +kernel
theorem dJx4a65c_add_7a177_54 : decode cJx4a65c_add_7a177 54 = .ok (.iload_n 1, 1) := by decide +kernel
theorem dJx4a65c_add_7a177_55 : decode cJx4a65c_add_7a177 55 = .ok (.aload_n 2, 1) := by decide +kernel
theorem dJx4a65c_add_7a177_56 : decode cJx4a65c_add_7a177 56 = .ok (.aastore, 1) := by decide +kernel
theorem dJx4a65c_add_7a177_57 : decode cJx4a65c_add_7a177 57 = .ok (.aload_n 0, 1) := by decide +kernel
theorem dJx4a65c_add_7a177_58 : decode cJx4a65c_add_7a177 58 = .ok (.iload_n 3, 1) := by decide +kernel
theorem dJx4a65c_add_7a177_59 : decode cJx4a65c_add_7a177 59 = .ok (.iconst 1, 1) := by decide +kernel
theorem dJx4a65c_add_7a177_60 : decode cJx4a65c_add_7a177 60 = .ok (.iadd, 1) := by decide +kernel
theorem dJx4a65c_add_7a177_61 : decode cJx4a65c_add_7a177 61 = .ok (.putfield 48, 3) := by decide +kernel
theorem dJx4a65c_add_7a177_64 : decode cJx4a65c_add_7a177 64 = .ok (.return_, 1) := by decide +kernel
theorem dJx4a65c_remove_915e3_0 : decode cJx4a65c_remove_915e3 0 = .ok (.iload_n 1, 1) := by decide +kernel
theorem dJx4a65c_remove_915e3_1 : decode cJx4a65c_remove_915e3 1 = .ok (.aload_n 0, 1) := by decide +kernel
theorem dJx4a65c_remove_915e3_2 : decode cJx4a65c_remove_915e3 2 = .ok (.getfield 48, 3) := by decide +kernel
theorem dJx4a65c_remove_915e3_5 : decode cJx4a65c_remove_915e3 5 = .ok (.invokestatic 118, 3) := by decide +kernel
theorem dJx4a65c_remove_915e3_8 : decode cJx4a65c_remove_915e3 8 = .ok (.pop, 1) := by decide +kernel
theorem dJx4a65c_remove_915e3_9 : decode cJx4a65c_remove_915e3 9 = .ok (.aload_n 0, 1) := by decide +kernel
theorem dJx4a65c_remove_915e3_10 : decode cJx4a65c_remove_915e3 10 = .ok (.getfield 9, 3) := by decide +kernel
theorem dJx4a65c_remove_915e3_13 : decode cJx4a65c_remove_915e3 13 = .ok (.astore_n 2, 1) := by decide +kernel
theorem dJx4a65c_remove_915e3_14 : decode cJx4a65c_remove_915e3 14 = .ok (.aload_n 2, 1) := by decide +kernel
theorem dJx4a65c_remove_915e3_15 : decode cJx4a65c_remove_915e3 15 = .ok (.iload_n 1, 1) := by decide +kernel
theorem dJx4a65c_remove_915e3_16 : decode cJx4a65c_remove_915e3 16 = .ok (.aaload, 1) := by decide +kernel
theorem dJx4a65c_remove_915e3_17 : decode cJx4a65c_remove_915e3 17 = .ok (.astore_n 3, 1) := by decide +kernel
theorem dJx4a65c_remove_915e3_18 : decode cJx4a65c_remove_915e3 18 = .ok (.aload_n 0, 1) := by decide +kernel
theorem dJx4a65c_remove_915e3_19 : decode cJx4a65c_remove_915e3 19 = .ok (.aload_n 2, 1) := by decide +kernel
theorem dJx4a65c_remove_915e3_20 : decode cJx4a65c_remove_915e3 20 = .ok (.iload_n 1, 1) := by decide +kernel
theorem dJx4a65c_remove_915e3_21 : decode cJx4a65c_remove_915e3 21 = .ok (.invokevirtual 144, 3) := by decide +kernel
theorem dJx4a65c_remove_915e3_24 : decode cJx4a65c_remove_915e3 24 = .ok (.aload_n 3, 1) := by decide +kernel
theorem dJx4a65c_remove_915e3_25 : decode cJx4a65c_remove_915e3 25 = .ok (.areturn, 1) := by decide +kernel
theorem dJx4a65c_fastRemove_b59b0_0 : decode cJx4a65c_fastRemove_b59b0 0 = .ok (.aload_n 0, 1) := by decide +kernel
theorem dJx4a65c_fastRemove_b59b0_1 : decode cJx4a65c_fastRemove_b59b0 1 = .ok (.dup, 1) := by decide +kernel
theorem dJx4a65c_fastRemove_b59b0_2 : decode cJx4a65c_fastRemove_b59b0 2 = .ok (.getfield 63, 3) := by decide +kernel
theorem dJx4a65c_fastRemove_b59b0_5 : decode cJx4a65c_fastRemove_b59b0 5 = .ok (.iconst 1, 1) := by decide +kernel
theorem dJx4a65c_fastRemove_b59b0_6 : decode cJx4a65c_fastRemove_b59b0 6 = .ok (.iadd, 1) := by decide +kernel
theorem dJx4a65c_fastRemove_b59b0_7 : decode cJx4a65c_fastRemove_b59b0 7 = .ok (.putfield 63, 3) := by decide +kernel
theorem dJx4a65c_fastRemove_b59b0_10 : decode cJx4a65c_fastRemove_b59b0 10 = .ok (.aload_n 0, 1) := by decide +kernel
theorem dJx4a65c_fastRemove_b59b0_11 : decode cJx4a65c_fastRemove_b59b0 11 = .ok (.getfield 48, 3) := by decide +kernel
theorem dJx4a65c_fastRemove_b59b0_14 : decode cJx4a65c_fastRemove_b59b0 14 = .ok (.iconst 1, 1) := by decide +kernel
theorem dJx4a65c_fastRemove_b59b0_15 : decode cJx4a65c_fastRemove_b59b0 15 = .ok (.isub, 1) := by decide +kernel
theorem dJx4a65c_fastRemove_b59b0_16 : decode cJx4a65c_fastRemove_b59b0 16 = .ok (.dup, 1) := by decide +kernel
theorem dJx4a65c_fastRemove_b59b0_17 : decode cJx4a65c_fastRemove_b59b0 17 = .ok (.istore_n 3, 1) := by decide +kernel
theorem dJx4a65c_fastRemove_b59b0_18 : decode cJx4a65c_fastRemove_b59b0 18 = .ok (.iload_n 2, 1) := by decide +kernel
theorem dJx4a65c_fastRemove_b59b0_19 : decode cJx4a65c_fastRemove_b59b0 19 = .ok (.if_icmp .le 15, 3) := by decide +kernel
theorem dJx4a65c_fastRemove_b59b0_22 : decode cJx4a65c_fastRemove_b59b0 22 = .ok (.aload_n 1, 1) := by decide +kernel
theorem dJx4a65c_fastRemove_b59b0_23 : decode cJx4a65c_fastRemove_b59b0 23 = .ok (.iload_n 2, 1) := by decide +kernel
theorem dJx4a65c_fastRemove_b59b0_24 : decode cJx4a65c_fastRemove_b59b0 24 = .ok (.iconst 1, 1) := by decide +kernel
theorem dJx4a65c_fastRemove_b59b0_25 : decode cJx4a65c_fastRemove_b59b0 25 = .ok (.iadd, 1) := by decide +kernel
theorem dJx4a65c_fastRemove_b59b0_26 : decode cJx4a65c_fastRemove_b59b0 26 = .ok (.aload_n 1, 1) := by decide +kernel
theorem dJx4a65c_fastRemove_b59b0_27 : decode cJx4a65c_fastRemove_b59b0 27 = .ok (.iload_n 2, 1) := by decide +kernel
theorem dJx4a65c_fastRemove_b59b0_28 : decode cJx4a65c_fastRemove_b59b0 28 = .ok (.iload_n 3, 1) := by decide +kernel
theorem dJx4a65c_fastRemove_b59b0_29 : decode cJx4a65c_fastRemove_b59b0 29 = .ok (.iload_n 2, 1) := by decide +kernel
theorem dJx4a65c_fastRemove_b59b0_30 : decode cJx4a65c_fastRemove_b59b0 30 = .ok (.isub, 1) := by decide +kernel
theorem dJx4a65c_fastRemove_b59b0_31 : decode cJx4a65c_fastRemove_b59b0 31 = .ok (.invokestatic 112, 3) := by decide +kernel
theorem dJx4a65c_fastRemove_b59b0_34 : decode cJx4a65c_fastRemove_b59b0 34 = .ok (.aload_n 1, 1) := by decide +kernel
theorem dJx4a65c_fastRemove_b59b0_35 : decode cJx4a65c_fastRemove_b59b0 35 = .ok (.aload_n 0, 1) := by decide +kernel
theorem dJx4a65c_fastRemove_b59b0_36 : decode cJx4a65c_fastRemove_b59b0 36 = .ok (.iload_n 3, 1) := by decide +kernel
theorem dJx4a65c_fastRemove_b59b0_37 : decode cJx4a65c_fastRemove_b59b0 37 = .ok (.dup_x1, 1) := by decide +kernel
theorem dJx4a65c_fastRemove_b59b0_38 : decode cJx4a65c_fastRemove_b59b0 38 = .ok (.putfield 48, 3) := by decide +kernel
theorem dJx4a65c_fastRemove_b59b0_41 : decode cJx4a65c_fastRemove_b59b0 41 = .ok (.aconst_null, 1) := by decide +kernel
theorem dJx4a65c_fastRemove_b59b0_42 : decode cJx4a65c_fastRemove_b59b0 42 = .ok (.aastore, 1) := by decide +kernel
theorem dJx4a65c_fastRemove_b59b0_43 : decode cJx4a65c_fastRemove_b59b0 43 = .ok (.return_, 1) := by decide +kernel
theorem dJx4a65c_rangeCheckForAdd_d00df_0 : decode cJx4a65c_rangeCheckForAdd_d00df 0 = .ok (.iload_n 1, 1) := by decide +kernel
theorem dJx4a65c_rangeCheckForAdd_d00df_1 : decode cJx4a65c_rangeCheckForAdd_d00df 1 = .ok (.aload_n 0, 1) := by decide +kernel
theorem dJx4a65c_rangeCheckForAdd_d00df_2 : decode cJx4a65c_rangeCheckForAdd_d00df 2 = .ok (.getfield 48, 3) := by decide +kernel
theorem dJx4a65c_rangeCheckForAdd_d00df_5 : decode cJx4a65c_rangeCheckForAdd_d00df 5 = .ok (.if_icmp .gt 7, 3) := by decide +kernel
theorem dJx4a65c_rangeCheckForAdd_d00df_8 : decode cJx4a65c_rangeCheckForAdd_d00df 8 = .ok (.iload_n 1, 1) := by decide +kernel
theorem dJx4a65c_rangeCheckForAdd_d00df_9 : decode cJx4a65c_rangeCheckForAdd_d00df 9 = .ok (.ifCond .ge 16, 3) := by decide +kernel
theorem dJx4a65c_rangeCheckForAdd_d00df_12 : decode cJx4a65c_rangeCheckForAdd_d00df 12 = .ok (.new 187, 3) := by decide +kernel
theorem dJx4a65c_rangeCheckForAdd_d00df_15 : decode cJx4a65c_rangeCheckForAdd_d00df 15 = .ok (.dup, 1) := by decide +kernel
theorem dJx4a65c_rangeCheckForAdd_d00df_16 : decode cJx4a65c_rangeCheckForAdd_d00df 16 = .ok (.aload_n 0, 1) := by decide +kernel
theorem dJx4a65c_rangeCheckForAdd_d00df_17 : decode cJx4a65c_rangeCheckForAdd_d00df 17 = .ok (.iload_n 1, 1) := by decide +kernel
theorem dJx4a65c_rangeCheckForAdd_d00df_18 : decode cJx4a65c_rangeCheckForAdd_d00df 18 = .ok (.invokevirtual 198, 3) := by decide +kernel
theorem dJx4a65c_rangeCheckForAdd_d00df_21 : decode cJx4a65c_rangeCheckForAdd_d00df 21 = .ok (.invokespecial 193, 3) := by decide +kernel
theorem dJx4a65c_rangeCheckForAdd_d00df_24 : decode cJx4a65c_rangeCheckForAdd_d00df 24 = .ok (.athrow, 1) := by decide +kernel
theorem dJx4a65c_rangeCheckForAdd_d00df_25 : decode cJx4a65c_rangeCheckForAdd_d00df 25 = .ok (.return_, 1) := by decide +kernel
theorem dJ7_copyOf_1904c_0 : decode cJ7_copyOf_1904c 0 = .ok (.aload_n 0, 1) := by decide +kernel
theorem dJ7_copyOf_1904c_1 : decode cJ7_copyOf_1904c 1 = .ok (.iload_n 1, 1) := by decide +kernel
theorem dJ7_copyOf_1904c_2 : decode cJ7_copyOf_1904c 2 = .ok (.aload_n 0, 1) := by decide +kernel
theorem dJ7_copyOf_1904c_3 : decode cJ7_copyOf_1904c 3 = .ok (.invokevirtual 86, 3) := by decide +kernel
theorem dJ7_copyOf_1904c_6 : decode cJ7_copyOf_1904c 6 = .ok (.invokestatic 300, 3) := by decide +kernel
theorem dJ7_copyOf_1904c_9 : decode cJ7_copyOf_1904c 9 = .ok (.areturn, 1) := by decide +kernel
theorem dJ7_copyOf_6403c_0 : decode cJ7_copyOf_6403c 0 = .ok (.aload_n 2, 1) := by decide +kernel
theorem dJ7_copyOf_6403c_1 : decode cJ7_copyOf_6403c 1 = .ok (.ldc 110, 2) := by decide +kernel
theorem dJ7_copyOf_6403c_3 : decode cJ7_copyOf_6403c 3 = .ok (.if_acmp .ne 10, 3) := by decide +kernel
theorem dJ7_copyOf_6403c_6 : decode cJ7_copyOf_6403c 6 = .ok (.iload_n 1, 1) := by decide +kernel
theorem dJ7_copyOf_6403c_7 : decode cJ7_copyOf_6403c 7 = .ok (.anewarray 2, 3) := by decide +kernel
theorem dJ7_copyOf_6403c_10 : decode cJ7_copyOf_6403c 10 = .ok (.goto 14, 3) := by decide +kernel
theorem dJ7_copyOf_6403c_13 : decode cJ7_copyOf_6403c 13 = .ok (.aload_n 2, 1) := by decide +kernel
theorem dJ7_copyOf_6403c_14 : decode cJ7_copyOf_6403c 14 = .ok (.invokevirtual 90, 3) := by decide +kernel
theorem dJ7_copyOf_6403c_17 : decode cJ7_copyOf_6403c 17 = .ok (.iload_n 1, 1) := by decide +kernel
theorem dJ7_copyOf_6403c_18 : decode cJ7_copyOf_6403c 18 = .ok (.invokestatic 95, 3) := by decide +kernel
theorem dJ7_copyOf_6403c_21 : decode cJ7_copyOf_6403c 21 = .ok (.checkcast 110, 3) := by decide +kernel
theorem dJ7_copyOf_6403c_24 : decode cJ7_copyOf_6403c 24 = .ok (.astore_n 3, 1) := by decide +kernel
theorem dJ7_copyOf_6403c_25 : decode cJ7_copyOf_6403c 25 = .ok (.aload_n 0, 1) := by decide +kernel
theorem dJ7_copyOf_6403c_26 : decode cJ7_copyOf_6403c 26 = .ok (.iconst 0, 1) := by decide +kernel
theorem dJ7_copyOf_6403c_27 : decode cJ7_copyOf_6403c 27 = .ok (.aload_n 3, 1) := by decide +kernel
theorem dJ7_copyOf_6403c_28 : decode cJ7_copyOf_6403c 28 = .ok (.iconst 0, 1) := by decide +kernel
theorem dJ7_copyOf_6403c_29 : decode cJ7_copyOf_6403c 29 = .ok (.aload_n 0, 1) := by decide +kernel
theorem dJ7_copyOf_6403c_30 : decode cJ7_copyOf_6403c 30 = .ok (.arraylength, 1) := by decide +kernel
theorem dJ7_copyOf_6403c_31 : decode cJ7_copyOf_6403c 31 = .ok (.iload_n 1, 1) := by decide +kernel
theorem dJ7_copyOf_6403c_32 : decode cJ7_copyOf_6403c 32 = .ok (.invokestatic 304, 3) := by decide +kernel
theorem dJ7_copyOf_6403c_35 : decode cJ7_copyOf_6403c 35 = .ok (.invokestatic 150, 3) := by decide +kernel
theorem dJ7_copyOf_6403c_38 : decode cJ7_copyOf_6403c 38 = .ok (.aload_n 3, 1) := by decide +kernel
theorem dJ7_copyOf_6403c_39 : decode cJ7_copyOf_6403c 39 = .ok (.areturn, 1) := by decide +kernel
theorem dJ15_checkIndex_7cf53_0 : decode cJ15_checkIndex_7cf53 0 = .ok (.iload_n 0, 1) := by decide +kernel
theorem dJ15_checkIndex_7cf53_1 : decode cJ15_checkIndex_7cf53 1 = .ok (.iload_n 1, 1) := by decide +kernel
theorem dJ15_checkIndex_7cf53_2 : decode cJ15_checkIndex_7cf53 2 = .ok (.aconst_null, 1) := by decide +kernel
theorem dJ15_checkIndex_7cf53_3 : decode cJ15_checkIndex_7cf53 3 = .ok (.invokestatic 105, 3) := by decide +kernel
theorem dJ15_checkIndex_7cf53_6 : decode cJ15_checkIndex_7cf53 6 = .ok (.ireturn, 1) := by decide +kernel
theorem dJ8_newLength_cabcc_0 : decode cJ8_newLength_cabcc 0 = .ok (.iload_n 0, 1) := by decide +kernel
theorem dJ8_newLength_cabcc_1 : decode cJ8_newLength_cabcc 1 = .ok (.iload_n 1, 1) := by decide +kernel
theorem dJ8_newLength_cabcc_2 : decode cJ8_newLength_cabcc 2 = .ok (.iload_n 2, 1) := by decide +kernel
theorem dJ8_newLength_cabcc_3 : decode cJ8_newLength_cabcc 3 = .ok (.invokestatic 194, 3) := by decide +kernel
theorem dJ8_newLength_cabcc_6 : decode cJ8_newLength_cabcc 6 = .ok (.iadd, 1) := by decide +kernel
theorem dJ8_newLength_cabcc_7 : decode cJ8_newLength_cabcc 7 = .ok (.istore_n 3, 1) := by decide +kernel
theorem dJ8_newLength_cabcc_8 : decode cJ8_newLength_cabcc 8 = .ok (.iconst 0, 1) := by decide +kernel
theorem dJ8_newLength_cabcc_9 : decode cJ8_newLength_cabcc 9 = .ok (.iload_n 3, 1) := by decide +kernel
theorem dJ8_newLength_cabcc_10 : decode cJ8_newLength_cabcc 10 = .ok (.if_icmp .ge 11, 3) := by decide +kernel
theorem dJ8_newLength_cabcc_13 : decode cJ8_newLength_cabcc 13 = .ok (.iload_n 3, 1) := by decide +kernel
theorem dJ8_newLength_cabcc_14 : decode cJ8_newLength_cabcc 14 = .ok (.ldc 200, 2) := by decide +kernel
theorem dJ8_newLength_cabcc_16 : decode cJ8_newLength_cabcc 16 = .ok (.if_icmp .gt 5, 3) := by decide +kernel
theorem dJ8_newLength_cabcc_19 : decode cJ8_newLength_cabcc 19 = .ok (.iload_n 3, 1) := by decide +kernel
theorem dJ8_newLength_cabcc_20 : decode cJ8_newLength_cabcc 20 = .ok (.ireturn, 1) := by decide +kernel
theorem dJ8_newLength_cabcc_21 : decode cJ8_newLength_cabcc 21 = .ok (.iload_n 0, 1) := by decide +kernel
theorem dJ8_newLength_cabcc_22 : decode cJ8_newLength_cabcc 22 = .ok (.iload_n 1, 1) := by decide +kernel
theorem dJ8_newLength_cabcc_23 : decode cJ8_newLength_cabcc 23 = .ok (.invokestatic 201, 3) := by decide +kernel
theorem dJ8_newLength_cabcc_26 : decode cJ8_newLength_cabcc 26 = .ok (.ireturn, 1) := by decide +kernel
theorem dJ8_hugeLength_7cf53_0 : decode cJ8_hugeLength_7cf53 0 = .ok (.iload_n 0, 1) := by decide +kernel
theorem dJ8_hugeLength_7cf53_1 : decode cJ8_hugeLength_7cf53 1 = .ok (.iload_n 1, 1) := by decide +kernel
theorem dJ8_hugeLength_7cf53_2 : decode cJ8_hugeLength_7cf53 2 = .ok (.iadd, 1) := by decide +kernel
theorem dJ8_hugeLength_7cf53_3 : decode cJ8_hugeLength_7cf53 3 = .ok (.istore_n 2, 1) := by decide +kernel
theorem dJ8_hugeLength_7cf53_4 : decode cJ8_hugeLength_7cf53 4 = .ok (.iload_n 2, 1) := by decide +kernel
theorem dJ8_hugeLength_7cf53_5 : decode cJ8_hugeLength_7cf53 5 = .ok (.ifCond .ge 44, 3) := by decide +kernel
theorem dJ8_hugeLength_7cf53_8 : decode cJ8_hugeLength_7cf53 8 = .ok (.new 204, 3) := by decide +kernel
theorem dJ8_hugeLength_7cf53_11 : decode cJ8_hugeLength_7cf53 11 = .ok (.dup, 1) := by decide +kernel
theorem dJ8_hugeLength_7cf53_12 : decode cJ8_hugeLength_7cf53 12 = .ok (.new 89, 3) := by decide +kernel
theorem dJ8_hugeLength_7cf53_15 : decode cJ8_hugeLength_7cf53 15 = .ok (.dup, 1) := by decide +kernel
theorem dJ8_hugeLength_7cf53_16 : decode cJ8_hugeLength_7cf53 16 = .ok (.invokespecial 91, 3) := by decide +kernel
theorem dJ8_hugeLength_7cf53_19 : decode cJ8_hugeLength_7cf53 19 = .ok (.ldc 206, 2) := by decide +kernel
theorem dJ8_hugeLength_7cf53_21 : decode cJ8_hugeLength_7cf53 21 = .ok (.invokevirtual 94, 3) := by decide +kernel
theorem dJ8_hugeLength_7cf53_24 : decode cJ8_hugeLength_7cf53 24 = .ok (.iload_n 0, 1) := by decide +kernel
theorem dJ8_hugeLength_7cf53_25 : decode cJ8_hugeLength_7cf53 25 = .ok (.invokevirtual 98, 3) := by decide +kernel
theorem dJ8_hugeLength_7cf53_28 : decode cJ8_hugeLength_7cf53 28 = .ok (.ldc 208, 2) := by decide +kernel
theorem dJ8_hugeLength_7cf53_30 : decode cJ8_hugeLength_7cf53 30 = .ok (.invokevirtual 94, 3) := by decide +kernel
theorem dJ8_hugeLength_7cf53_33 : decode cJ8_hugeLength_7cf53 33 = .ok (.iload_n 1, 1) := by decide +kernel
theorem dJ8_hugeLength_7cf53_34 : decode cJ8_hugeLength_7cf53 34 = .ok (.invokevirtual 98, 3) := by decide +kernel
theorem dJ8_hugeLength_7cf53_37 : decode cJ8_hugeLength_7cf53 37 = .ok (.ldc 210, 2) := by decide +kernel
theorem dJ8_hugeLength_7cf53_39 : decode cJ8_hugeLength_7cf53 39 = .ok (.invokevirtual 94, 3) := by decide +kernel
theorem dJ8_hugeLength_7cf53_42 : decode cJ8_hugeLength_7cf53 42 = .ok (.invokevirtual 101, 3) := by decide +kernel
theorem dJ8_hugeLength_7cf53_45 : decode cJ8_hugeLength_7cf53 45 = .ok (.invokespecial 212, 3) := by decide +kernel
theorem dJ8_hugeLength_7cf53_48 : decode cJ8_hugeLength_7cf53 48 = .ok (.athrow, 1) := by decide +kernel
theorem dJ8_hugeLength_7cf53_49 : decode cJ8_hugeLength_7cf53 49 = .ok (.iload_n 2, 1) := by decide +kernel
theorem dJ8_hugeLength_7cf53_50 : decode cJ8_hugeLength_7cf53 50 = .ok (.ldc 200, 2) := by decide +kernel
theorem dJ8_hugeLength_7cf53_52 : decode cJ8_hugeLength_7cf53 52 = .ok (.if_icmp .gt 6, 3) := by decide +kernel
theorem dJ8_hugeLength_7cf53_55 : decode cJ8_hugeLength_7cf53 55 = .ok (.ldc 200, 2) := by decide +kernel
theorem dJ8_hugeLength_7cf53_57 : decode cJ8_hugeLength_7cf53 57 = .ok (.ireturn, 1) := by decide +kernel
theorem dJ8_hugeLength_7cf53_58 : decode cJ8_hugeLength_7cf53 58 = .ok (.iload_n 2, 1) := by decide +kernel
theorem dJ8_hugeLength_7cf53_59 : decode cJ8_hugeLength_7cf53 59 = .ok (.ireturn, 1) := by decide +kernel
theorem dJ3_checkIndex_8e157_0 : decode cJ3_checkIndex_8e157 0 = .ok (.iload_n 0, 1) := by decide +kernel
theorem dJ3_checkIndex_8e157_1 : decode cJ3_checkIndex_8e157 1 = .ok (.ifCond .lt 8, 3) := by decide +kernel
theorem dJ3_checkIndex_8e157_4 : decode cJ3_checkIndex_8e157 4 = .ok (.iload_n 0, 1) := by decide +kernel
theorem dJ3_checkIndex_8e157_5 : decode cJ3_checkIndex_8e157 5 = .ok (.iload_n 1, 1) := by decide +kernel
theorem dJ3_checkIndex_8e157_6 : decode cJ3_checkIndex_8e157 6 = .ok (.if_icmp .lt 10, 3) := by decide +kernel
theorem dJ3_checkIndex_8e157_9 : decode cJ3_checkIndex_8e157 9 = .ok (.aload_n 2, 1) := by decide +kernel
theorem dJ3_checkIndex_8e157_10 : decode cJ3_checkIndex_8e157 10 = .ok (.iload_n 0, 1) := by decide +kernel
theorem dJ3_checkIndex_8e157_11 : decode cJ3_checkIndex_8e157 11 = .ok (.iload_n 1, 1) := by decide +kernel
theorem dJ3_checkIndex_8e157_12 : decode cJ3_checkIndex_8e157 12 = .ok (.invokestatic 95, 3) := by decide +kernel
theorem dJ3_checkIndex_8e157_15 : decode cJ3_checkIndex_8e157 15 = .ok (.athrow, 1) := by decide +kernel
theorem dJ3_checkIndex_8e157_16 : decode cJ3_checkIndex_8e157 16 = .ok (.iload_n 0, 1) := by decide +kernel
theorem dJ3_checkIndex_8e157_17 : decode cJ3_checkIndex_8e157 17 = .ok (.ireturn, 1) := by decide +kernel
theorem dL_law_0 : decode cL_law 0 = .ok (.new 7, 3) := by decide +kernel
theorem dL_law_3 : decode cL_law 3 = .ok (.dup, 1) := by decide +kernel
theorem dL_law_4 : decode cL_law 4 = .ok (.invokespecial 9, 3) := by decide +kernel
theorem dL_law_7 : decode cL_law 7 = .ok (.astore_n 1, 1) := by decide +kernel
theorem dL_law_8 : decode cL_law 8 = .ok (.new 10, 3) := by decide +kernel
theorem dL_law_11 : decode cL_law 11 = .ok (.dup, 1) := by decide +kernel
theorem dL_law_12 : decode cL_law 12 = .ok (.invokespecial 12, 3) := by decide +kernel
theorem dL_law_15 : decode cL_law 15 = .ok (.astore_n 2, 1) := by decide +kernel
theorem dL_law_16 : decode cL_law 16 = .ok (.iconst 0, 1) := by decide +kernel
theorem dL_law_17 : decode cL_law 17 = .ok (.istore_n 3, 1) := by decide +kernel
theorem dL_law_18 : decode cL_law 18 = .ok (.iload_n 3, 1) := by decide +kernel
theorem dL_law_19 : decode cL_law 19 = .ok (.aload_n 0, 1) := by decide +kernel
theorem dL_law_20 : decode cL_law 20 = .ok (.arraylength, 1) := by decide +kernel
theorem dL_law_21 : decode cL_law 21 = .ok (.bipush 6, 2) := by decide +kernel
theorem dL_law_23 : decode cL_law 23 = .ok (.isub, 1) := by decide +kernel
theorem dL_law_24 : decode cL_law 24 = .ok (.if_icmp .gt 794, 3) := by decide +kernel
theorem dL_law_27 : decode cL_law 27 = .ok (.aload_n 0, 1) := by decide +kernel
theorem dL_law_28 : decode cL_law 28 = .ok (.iload_n 3, 1) := by decide +kernel
theorem dL_law_29 : decode cL_law 29 = .ok (.iaload, 1) := by decide +kernel
theorem dL_law_30 : decode cL_law 30 = .ok (.bipush 31, 2) := by decide +kernel
theorem dL_law_32 : decode cL_law 32 = .ok (.iand, 1) := by decide +kernel
theorem dL_law_33 : decode cL_law 33 = .ok (.tableswitch 779 0 21 #[103, 166, 189, 222, 265, 288, 321, 344, 367, 390, 403, 436, 479, 502, 535, 558, 611, 634, 657, 700, 723, 756], 103) := by decide +kernel
theorem dL_law_136 : decode cL_law 136 = .ok (.aload_n 1, 1) := by decide +kernel
theorem dL_law_137 : decode cL_law 137 = .ok (.aload_n 0, 1) := by decide +kernel
theorem dL_law_138 : decode cL_law 138 = .ok (.iload_n 3, 1) := by decide +kernel
theorem dL_law_139 : decode cL_law 139 = .ok (.iconst 1, 1) := by decide +kernel
theorem dL_law_140 : decode cL_law 140 = .ok (.iadd, 1) := by decide +kernel
theorem dL_law_141 : decode cL_law 141 = .ok (.iaload, 1) := by decide +kernel
theorem dL_law_142 : decode cL_law 142 = .ok (.aload_n 0, 1) := by decide +kernel
theorem dL_law_143 : decode cL_law 143 = .ok (.iload_n 3, 1) := by decide +kernel
theorem dL_law_144 : decode cL_law 144 = .ok (.iconst 2, 1) := by decide +kernel
theorem dL_law_145 : decode cL_law 145 = .ok (.iadd, 1) := by decide +kernel
theorem dL_law_146 : decode cL_law 146 = .ok (.iaload, 1) := by decide +kernel
theorem dL_law_147 : decode cL_law 147 = .ok (.aload_n 0, 1) := by decide +kernel
theorem dL_law_148 : decode cL_law 148 = .ok (.iload_n 3, 1) := by decide +kernel
theorem dL_law_149 : decode cL_law 149 = .ok (.iconst 3, 1) := by decide +kernel
theorem dL_law_150 : decode cL_law 150 = .ok (.iadd, 1) := by decide +kernel
theorem dL_law_151 : decode cL_law 151 = .ok (.iaload, 1) := by decide +kernel
theorem dL_law_152 : decode cL_law 152 = .ok (.aload_n 0, 1) := by decide +kernel
theorem dL_law_153 : decode cL_law 153 = .ok (.iload_n 3, 1) := by decide +kernel
theorem dL_law_154 : decode cL_law 154 = .ok (.iconst 4, 1) := by decide +kernel
theorem dL_law_155 : decode cL_law 155 = .ok (.iadd, 1) := by decide +kernel
theorem dL_law_156 : decode cL_law 156 = .ok (.iaload, 1) := by decide +kernel
theorem dL_law_157 : decode cL_law 157 = .ok (.aload_n 0, 1) := by decide +kernel
theorem dL_law_158 : decode cL_law 158 = .ok (.iload_n 3, 1) := by decide +kernel
theorem dL_law_159 : decode cL_law 159 = .ok (.iconst 5, 1) := by decide +kernel
theorem dL_law_160 : decode cL_law 160 = .ok (.iadd, 1) := by decide +kernel
theorem dL_law_161 : decode cL_law 161 = .ok (.iaload, 1) := by decide +kernel
theorem dL_law_162 : decode cL_law 162 = .ok (.invokevirtual 13, 3) := by decide +kernel
theorem dL_law_165 : decode cL_law 165 = .ok (.aload_n 2, 1) := by decide +kernel
theorem dL_law_166 : decode cL_law 166 = .ok (.aload_n 0, 1) := by decide +kernel
theorem dL_law_167 : decode cL_law 167 = .ok (.iload_n 3, 1) := by decide +kernel
theorem dL_law_168 : decode cL_law 168 = .ok (.iconst 1, 1) := by decide +kernel
theorem dL_law_169 : decode cL_law 169 = .ok (.iadd, 1) := by decide +kernel
theorem dL_law_170 : decode cL_law 170 = .ok (.iaload, 1) := by decide +kernel
theorem dL_law_171 : decode cL_law 171 = .ok (.aload_n 0, 1) := by decide +kernel
theorem dL_law_172 : decode cL_law 172 = .ok (.iload_n 3, 1) := by decide +kernel
theorem dL_law_173 : decode cL_law 173 = .ok (.iconst 2, 1) := by decide +kernel
theorem dL_law_174 : decode cL_law 174 = .ok (.iadd, 1) := by decide +kernel
theorem dL_law_175 : decode cL_law 175 = .ok (.iaload, 1) := by decide +kernel
theorem dL_law_176 : decode cL_law 176 = .ok (.aload_n 0, 1) := by decide +kernel
theorem dL_law_177 : decode cL_law 177 = .ok (.iload_n 3, 1) := by decide +kernel
theorem dL_law_178 : decode cL_law 178 = .ok (.iconst 3, 1) := by decide +kernel
theorem dL_law_179 : decode cL_law 179 = .ok (.iadd, 1) := by decide +kernel
theorem dL_law_180 : decode cL_law 180 = .ok (.iaload, 1) := by decide +kernel
theorem dL_law_181 : decode cL_law 181 = .ok (.aload_n 0, 1) := by decide +kernel
theorem dL_law_182 : decode cL_law 182 = .ok (.iload_n 3, 1) := by decide +kernel
theorem dL_law_183 : decode cL_law 183 = .ok (.iconst 4, 1) := by decide +kernel
theorem dL_law_184 : decode cL_law 184 = .ok (.iadd, 1) := by decide +kernel
theorem dL_law_185 : decode cL_law 185 = .ok (.iaload, 1) := by decide +kernel
theorem dL_law_186 : decode cL_law 186 = .ok (.aload_n 0, 1) := by decide +kernel
theorem dL_law_187 : decode cL_law 187 = .ok (.iload_n 3, 1) := by decide +kernel
theorem dL_law_188 : decode cL_law 188 = .ok (.iconst 5, 1) := by decide +kernel
theorem dL_law_189 : decode cL_law 189 = .ok (.iadd, 1) := by decide +kernel
theorem dL_law_190 : decode cL_law 190 = .ok (.iaload, 1) := by decide +kernel
theorem dL_law_191 : decode cL_law 191 = .ok (.invokevirtual 17, 3) := by decide +kernel
theorem dL_law_194 : decode cL_law 194 = .ok (.if_icmp .eq 618, 3) := by decide +kernel
theorem dL_law_197 : decode cL_law 197 = .ok (.iconst 0, 1) := by decide +kernel
theorem dL_law_198 : decode cL_law 198 = .ok (.ireturn, 1) := by decide +kernel
theorem dL_law_199 : decode cL_law 199 = .ok (.aload_n 1, 1) := by decide +kernel
theorem dL_law_200 : decode cL_law 200 = .ok (.aload_n 0, 1) := by decide +kernel
theorem dL_law_201 : decode cL_law 201 = .ok (.iload_n 3, 1) := by decide +kernel
theorem dL_law_202 : decode cL_law 202 = .ok (.iconst 1, 1) := by decide +kernel
theorem dL_law_203 : decode cL_law 203 = .ok (.iadd, 1) := by decide +kernel
theorem dL_law_204 : decode cL_law 204 = .ok (.iaload, 1) := by decide +kernel
theorem dL_law_205 : decode cL_law 205 = .ok (.invokevirtual 18, 3) := by decide +kernel
theorem dL_law_208 : decode cL_law 208 = .ok (.aload_n 2, 1) := by decide +kernel
theorem dL_law_209 : decode cL_law 209 = .ok (.aload_n 0, 1) := by decide +kernel
theorem dL_law_210 : decode cL_law 210 = .ok (.iload_n 3, 1) := by decide +kernel
theorem dL_law_211 : decode cL_law 211 = .ok (.iconst 1, 1) := by decide +kernel
theorem dL_law_212 : decode cL_law 212 = .ok (.iadd, 1) := by decide +kernel
theorem dL_law_213 : decode cL_law 213 = .ok (.iaload, 1) := by decide +kernel
theorem dL_law_214 : decode cL_law 214 = .ok (.invokevirtual 22, 3) := by decide +kernel
theorem dL_law_217 : decode cL_law 217 = .ok (.if_icmp .eq 595, 3) := by decide +kernel
theorem dL_law_220 : decode cL_law 220 = .ok (.iconst 0, 1) := by decide +kernel
theorem dL_law_221 : decode cL_law 221 = .ok (.ireturn, 1) := by decide +kernel
theorem dL_law_222 : decode cL_law 222 = .ok (.aload_n 1, 1) := by decide +kernel
theorem dL_law_223 : decode cL_law 223 = .ok (.aload_n 0, 1) := by decide +kernel
theorem dL_law_224 : decode cL_law 224 = .ok (.iload_n 3, 1) := by decide +kernel
theorem dL_law_225 : decode cL_law 225 = .ok (.iconst 1, 1) := by decide +kernel
theorem dL_law_226 : decode cL_law 226 = .ok (.iadd, 1) := by decide +kernel
theorem dL_law_227 : decode cL_law 227 = .ok (.iaload, 1) := by decide +kernel
theorem dL_law_228 : decode cL_law 228 = .ok (.aload_n 0, 1) := by decide +kernel
theorem dL_law_229 : decode cL_law 229 = .ok (.iload_n 3, 1) := by decide +kernel
theorem dL_law_230 : decode cL_law 230 = .ok (.iconst 2, 1) := by decide +kernel
theorem dL_law_231 : decode cL_law 231 = .ok (.iadd, 1) := by decide +kernel
theorem dL_law_232 : decode cL_law 232 = .ok (.iaload, 1) := by decide +kernel
theorem dL_law_233 : decode cL_law 233 = .ok (.invokevirtual 23, 3) := by decide +kernel
theorem dL_law_236 : decode cL_law 236 = .ok (.aload_n 2, 1) := by decide +kernel
theorem dL_law_237 : decode cL_law 237 = .ok (.aload_n 0, 1) := by decide +kernel
theorem dL_law_238 : decode cL_law 238 = .ok (.iload_n 3, 1) := by decide +kernel
theorem dL_law_239 : decode cL_law 239 = .ok (.iconst 1, 1) := by decide +kernel
theorem dL_law_240 : decode cL_law 240 = .ok (.iadd, 1) := by decide +kernel
theorem dL_law_241 : decode cL_law 241 = .ok (.iaload, 1) := by decide +kernel
theorem dL_law_242 : decode cL_law 242 = .ok (.aload_n 0, 1) := by decide +kernel
theorem dL_law_243 : decode cL_law 243 = .ok (.iload_n 3, 1) := by decide +kernel
theorem dL_law_244 : decode cL_law 244 = .ok (.iconst 2, 1) := by decide +kernel
end
section
theorem dL_law_245 : decode cL_law 245 = .ok (.iadd, 1) := by decide +kernel
theorem dL_law_246 : decode cL_law 246 = .ok (.iaload, 1) := by decide +kernel
theorem dL_law_247 : decode cL_law 247 = .ok (.invokevirtual 27, 3) := by decide +kernel
theorem dL_law_250 : decode cL_law 250 = .ok (.if_icmp .eq 562, 3) := by decide +kernel
theorem dL_law_253 : decode cL_law 253 = .ok (.iconst 0, 1) := by decide +kernel
theorem dL_law_254 : decode cL_law 254 = .ok (.ireturn, 1) := by decide +kernel
theorem dL_law_255 : decode cL_law 255 = .ok (.aload_n 1, 1) := by decide +kernel
theorem dL_law_256 : decode cL_law 256 = .ok (.aload_n 0, 1) := by decide +kernel
theorem dL_law_257 : decode cL_law 257 = .ok (.iload_n 3, 1) := by decide +kernel
theorem dL_law_258 : decode cL_law 258 = .ok (.iconst 1, 1) := by decide +kernel
theorem dL_law_259 : decode cL_law 259 = .ok (.iadd, 1) := by decide +kernel
theorem dL_law_260 : decode cL_law 260 = .ok (.iaload, 1) := by decide +kernel
theorem dL_law_261 : decode cL_law 261 = .ok (.aload_n 0, 1) := by decide +kernel
theorem dL_law_262 : decode cL_law 262 = .ok (.iload_n 3, 1) := by decide +kernel
theorem dL_law_263 : decode cL_law 263 = .ok (.iconst 2, 1) := by decide +kernel
theorem dL_law_264 : decode cL_law 264 = .ok (.iadd, 1) := by decide +kernel
theorem dL_law_265 : decode cL_law 265 = .ok (.iaload, 1) := by decide +kernel
theorem dL_law_266 : decode cL_law 266 = .ok (.aload_n 0, 1) := by decide +kernel
theorem dL_law_267 : decode cL_law 267 = .ok (.iload_n 3, 1) := by decide +kernel
theorem dL_law_268 : decode cL_law 268 = .ok (.iconst 3, 1) := by decide +kernel
theorem dL_law_269 : decode cL_law 269 = .ok (.iadd, 1) := by decide +kernel
theorem dL_law_270 : decode cL_law 270 = .ok (.iaload, 1) := by decide +kernel
theorem dL_law_271 : decode cL_law 271 = .ok (.invokevirtual 28, 3) := by decide +kernel
theorem dL_law_274 : decode cL_law 274 = .ok (.aload_n 2, 1) := by decide +kernel
theorem dL_law_275 : decode cL_law 275 = .ok (.aload_n 0, 1) := by decide +kernel
theorem dL_law_276 : decode cL_law 276 = .ok (.iload_n 3, 1) := by decide +kernel
theorem dL_law_277 : decode cL_law 277 = .ok (.iconst 1, 1) := by decide +kernel
theorem dL_law_278 : decode cL_law 278 = .ok (.iadd, 1) := by decide +kernel
theorem dL_law_279 : decode cL_law 279 = .ok (.iaload, 1) := by decide +kernel
theorem dL_law_280 : decode cL_law 280 = .ok (.aload_n 0, 1) := by decide +kernel
theorem dL_law_281 : decode cL_law 281 = .ok (.iload_n 3, 1) := by decide +kernel
theorem dL_law_282 : decode cL_law 282 = .ok (.iconst 2, 1) := by decide +kernel
theorem dL_law_283 : decode cL_law 283 = .ok (.iadd, 1) := by decide +kernel
theorem dL_law_284 : decode cL_law 284 = .ok (.iaload, 1) := by decide +kernel
theorem dL_law_285 : decode cL_law 285 = .ok (.aload_n 0, 1) := by decide +kernel
theorem dL_law_286 : decode cL_law 286 = .ok (.iload_n 3, 1) := by decide +kernel
theorem dL_law_287 : decode cL_law 287 = .ok (.iconst 3, 1) := by decide +kernel
theorem dL_law_288 : decode cL_law 288 = .ok (.iadd, 1) := by decide +kernel
theorem dL_law_289 : decode cL_law 289 = .ok (.iaload, 1) := by decide +kernel
theorem dL_law_290 : decode cL_law 290 = .ok (.invokevirtual 32, 3) := by decide +kernel
theorem dL_law_293 : decode cL_law 293 = .ok (.if_icmp .eq 519, 3) := by decide +kernel
theorem dL_law_296 : decode cL_law 296 = .ok (.iconst 0, 1) := by decide +kernel
theorem dL_law_297 : decode cL_law 297 = .ok (.ireturn, 1) := by decide +kernel
theorem dL_law_298 : decode cL_law 298 = .ok (.aload_n 1, 1) := by decide +kernel
theorem dL_law_299 : decode cL_law 299 = .ok (.aload_n 0, 1) := by decide +kernel
theorem dL_law_300 : decode cL_law 300 = .ok (.iload_n 3, 1) := by decide +kernel
theorem dL_law_301 : decode cL_law 301 = .ok (.iconst 1, 1) := by decide +kernel
theorem dL_law_302 : decode cL_law 302 = .ok (.iadd, 1) := by decide +kernel
theorem dL_law_303 : decode cL_law 303 = .ok (.iaload, 1) := by decide +kernel
theorem dL_law_304 : decode cL_law 304 = .ok (.invokevirtual 33, 3) := by decide +kernel
theorem dL_law_307 : decode cL_law 307 = .ok (.aload_n 2, 1) := by decide +kernel
theorem dL_law_308 : decode cL_law 308 = .ok (.aload_n 0, 1) := by decide +kernel
theorem dL_law_309 : decode cL_law 309 = .ok (.iload_n 3, 1) := by decide +kernel
theorem dL_law_310 : decode cL_law 310 = .ok (.iconst 1, 1) := by decide +kernel
theorem dL_law_311 : decode cL_law 311 = .ok (.iadd, 1) := by decide +kernel
theorem dL_law_312 : decode cL_law 312 = .ok (.iaload, 1) := by decide +kernel
theorem dL_law_313 : decode cL_law 313 = .ok (.invokevirtual 37, 3) := by decide +kernel
theorem dL_law_316 : decode cL_law 316 = .ok (.if_icmp .eq 496, 3) := by decide +kernel
theorem dL_law_319 : decode cL_law 319 = .ok (.iconst 0, 1) := by decide +kernel
theorem dL_law_320 : decode cL_law 320 = .ok (.ireturn, 1) := by decide +kernel
theorem dL_law_321 : decode cL_law 321 = .ok (.aload_n 1, 1) := by decide +kernel
theorem dL_law_322 : decode cL_law 322 = .ok (.aload_n 0, 1) := by decide +kernel
theorem dL_law_323 : decode cL_law 323 = .ok (.iload_n 3, 1) := by decide +kernel
theorem dL_law_324 : decode cL_law 324 = .ok (.iconst 1, 1) := by decide +kernel
theorem dL_law_325 : decode cL_law 325 = .ok (.iadd, 1) := by decide +kernel
theorem dL_law_326 : decode cL_law 326 = .ok (.iaload, 1) := by decide +kernel
theorem dL_law_327 : decode cL_law 327 = .ok (.aload_n 0, 1) := by decide +kernel
theorem dL_law_328 : decode cL_law 328 = .ok (.iload_n 3, 1) := by decide +kernel
theorem dL_law_329 : decode cL_law 329 = .ok (.iconst 2, 1) := by decide +kernel
theorem dL_law_330 : decode cL_law 330 = .ok (.iadd, 1) := by decide +kernel
theorem dL_law_331 : decode cL_law 331 = .ok (.iaload, 1) := by decide +kernel
theorem dL_law_332 : decode cL_law 332 = .ok (.invokevirtual 38, 3) := by decide +kernel
theorem dL_law_335 : decode cL_law 335 = .ok (.aload_n 2, 1) := by decide +kernel
theorem dL_law_336 : decode cL_law 336 = .ok (.aload_n 0, 1) := by decide +kernel
theorem dL_law_337 : decode cL_law 337 = .ok (.iload_n 3, 1) := by decide +kernel
theorem dL_law_338 : decode cL_law 338 = .ok (.iconst 1, 1) := by decide +kernel
theorem dL_law_339 : decode cL_law 339 = .ok (.iadd, 1) := by decide +kernel
theorem dL_law_340 : decode cL_law 340 = .ok (.iaload, 1) := by decide +kernel
theorem dL_law_341 : decode cL_law 341 = .ok (.aload_n 0, 1) := by decide +kernel
theorem dL_law_342 : decode cL_law 342 = .ok (.iload_n 3, 1) := by decide +kernel
theorem dL_law_343 : decode cL_law 343 = .ok (.iconst 2, 1) := by decide +kernel
theorem dL_law_344 : decode cL_law 344 = .ok (.iadd, 1) := by decide +kernel
theorem dL_law_345 : decode cL_law 345 = .ok (.iaload, 1) := by decide +kernel
theorem dL_law_346 : decode cL_law 346 = .ok (.invokevirtual 42, 3) := by decide +kernel
theorem dL_law_349 : decode cL_law 349 = .ok (.if_icmp .eq 463, 3) := by decide +kernel
theorem dL_law_352 : decode cL_law 352 = .ok (.iconst 0, 1) := by decide +kernel
theorem dL_law_353 : decode cL_law 353 = .ok (.ireturn, 1) := by decide +kernel
theorem dL_law_354 : decode cL_law 354 = .ok (.aload_n 1, 1) := by decide +kernel
theorem dL_law_355 : decode cL_law 355 = .ok (.aload_n 0, 1) := by decide +kernel
theorem dL_law_356 : decode cL_law 356 = .ok (.iload_n 3, 1) := by decide +kernel
theorem dL_law_357 : decode cL_law 357 = .ok (.iconst 1, 1) := by decide +kernel
theorem dL_law_358 : decode cL_law 358 = .ok (.iadd, 1) := by decide +kernel
theorem dL_law_359 : decode cL_law 359 = .ok (.iaload, 1) := by decide +kernel
theorem dL_law_360 : decode cL_law 360 = .ok (.invokevirtual 43, 3) := by decide +kernel
theorem dL_law_363 : decode cL_law 363 = .ok (.aload_n 2, 1) := by decide +kernel
theorem dL_law_364 : decode cL_law 364 = .ok (.aload_n 0, 1) := by decide +kernel
theorem dL_law_365 : decode cL_law 365 = .ok (.iload_n 3, 1) := by decide +kernel
theorem dL_law_366 : decode cL_law 366 = .ok (.iconst 1, 1) := by decide +kernel
theorem dL_law_367 : decode cL_law 367 = .ok (.iadd, 1) := by decide +kernel
theorem dL_law_368 : decode cL_law 368 = .ok (.iaload, 1) := by decide +kernel
theorem dL_law_369 : decode cL_law 369 = .ok (.invokevirtual 46, 3) := by decide +kernel
theorem dL_law_372 : decode cL_law 372 = .ok (.if_icmp .eq 440, 3) := by decide +kernel
theorem dL_law_375 : decode cL_law 375 = .ok (.iconst 0, 1) := by decide +kernel
theorem dL_law_376 : decode cL_law 376 = .ok (.ireturn, 1) := by decide +kernel
theorem dL_law_377 : decode cL_law 377 = .ok (.aload_n 1, 1) := by decide +kernel
theorem dL_law_378 : decode cL_law 378 = .ok (.aload_n 0, 1) := by decide +kernel
theorem dL_law_379 : decode cL_law 379 = .ok (.iload_n 3, 1) := by decide +kernel
theorem dL_law_380 : decode cL_law 380 = .ok (.iconst 1, 1) := by decide +kernel
theorem dL_law_381 : decode cL_law 381 = .ok (.iadd, 1) := by decide +kernel
theorem dL_law_382 : decode cL_law 382 = .ok (.iaload, 1) := by decide +kernel
theorem dL_law_383 : decode cL_law 383 = .ok (.invokevirtual 47, 3) := by decide +kernel
theorem dL_law_386 : decode cL_law 386 = .ok (.aload_n 2, 1) := by decide +kernel
theorem dL_law_387 : decode cL_law 387 = .ok (.aload_n 0, 1) := by decide +kernel
theorem dL_law_388 : decode cL_law 388 = .ok (.iload_n 3, 1) := by decide +kernel
theorem dL_law_389 : decode cL_law 389 = .ok (.iconst 1, 1) := by decide +kernel
theorem dL_law_390 : decode cL_law 390 = .ok (.iadd, 1) := by decide +kernel
theorem dL_law_391 : decode cL_law 391 = .ok (.iaload, 1) := by decide +kernel
theorem dL_law_392 : decode cL_law 392 = .ok (.invokevirtual 50, 3) := by decide +kernel
theorem dL_law_395 : decode cL_law 395 = .ok (.if_icmp .eq 417, 3) := by decide +kernel
theorem dL_law_398 : decode cL_law 398 = .ok (.iconst 0, 1) := by decide +kernel
theorem dL_law_399 : decode cL_law 399 = .ok (.ireturn, 1) := by decide +kernel
theorem dL_law_400 : decode cL_law 400 = .ok (.aload_n 1, 1) := by decide +kernel
theorem dL_law_401 : decode cL_law 401 = .ok (.aload_n 0, 1) := by decide +kernel
theorem dL_law_402 : decode cL_law 402 = .ok (.iload_n 3, 1) := by decide +kernel
theorem dL_law_403 : decode cL_law 403 = .ok (.iconst 1, 1) := by decide +kernel
theorem dL_law_404 : decode cL_law 404 = .ok (.iadd, 1) := by decide +kernel
theorem dL_law_405 : decode cL_law 405 = .ok (.iaload, 1) := by decide +kernel
theorem dL_law_406 : decode cL_law 406 = .ok (.invokevirtual 51, 3) := by decide +kernel
theorem dL_law_409 : decode cL_law 409 = .ok (.aload_n 2, 1) := by decide +kernel
theorem dL_law_410 : decode cL_law 410 = .ok (.aload_n 0, 1) := by decide +kernel
theorem dL_law_411 : decode cL_law 411 = .ok (.iload_n 3, 1) := by decide +kernel
theorem dL_law_412 : decode cL_law 412 = .ok (.iconst 1, 1) := by decide +kernel
theorem dL_law_413 : decode cL_law 413 = .ok (.iadd, 1) := by decide +kernel
theorem dL_law_414 : decode cL_law 414 = .ok (.iaload, 1) := by decide +kernel
theorem dL_law_415 : decode cL_law 415 = .ok (.invokevirtual 54, 3) := by decide +kernel
theorem dL_law_418 : decode cL_law 418 = .ok (.if_icmp .eq 394, 3) := by decide +kernel
theorem dL_law_421 : decode cL_law 421 = .ok (.iconst 0, 1) := by decide +kernel
theorem dL_law_422 : decode cL_law 422 = .ok (.ireturn, 1) := by decide +kernel
theorem dL_law_423 : decode cL_law 423 = .ok (.aload_n 1, 1) := by decide +kernel
theorem dL_law_424 : decode cL_law 424 = .ok (.invokevirtual 55, 3) := by decide +kernel
theorem dL_law_427 : decode cL_law 427 = .ok (.aload_n 2, 1) := by decide +kernel
theorem dL_law_428 : decode cL_law 428 = .ok (.invokevirtual 59, 3) := by decide +kernel
theorem dL_law_431 : decode cL_law 431 = .ok (.if_icmp .eq 381, 3) := by decide +kernel
theorem dL_law_434 : decode cL_law 434 = .ok (.iconst 0, 1) := by decide +kernel
theorem dL_law_435 : decode cL_law 435 = .ok (.ireturn, 1) := by decide +kernel
theorem dL_law_436 : decode cL_law 436 = .ok (.aload_n 1, 1) := by decide +kernel
theorem dL_law_437 : decode cL_law 437 = .ok (.aload_n 0, 1) := by decide +kernel
theorem dL_law_438 : decode cL_law 438 = .ok (.iload_n 3, 1) := by decide +kernel
theorem dL_law_439 : decode cL_law 439 = .ok (.iconst 1, 1) := by decide +kernel
theorem dL_law_440 : decode cL_law 440 = .ok (.iadd, 1) := by decide +kernel
theorem dL_law_441 : decode cL_law 441 = .ok (.iaload, 1) := by decide +kernel
theorem dL_law_442 : decode cL_law 442 = .ok (.aload_n 0, 1) := by decide +kernel
theorem dL_law_443 : decode cL_law 443 = .ok (.iload_n 3, 1) := by decide +kernel
theorem dL_law_444 : decode cL_law 444 = .ok (.iconst 2, 1) := by decide +kernel
theorem dL_law_445 : decode cL_law 445 = .ok (.iadd, 1) := by decide +kernel
theorem dL_law_446 : decode cL_law 446 = .ok (.iaload, 1) := by decide +kernel
theorem dL_law_447 : decode cL_law 447 = .ok (.invokevirtual 60, 3) := by decide +kernel
theorem dL_law_450 : decode cL_law 450 = .ok (.aload_n 2, 1) := by decide +kernel
theorem dL_law_451 : decode cL_law 451 = .ok (.aload_n 0, 1) := by decide +kernel
theorem dL_law_452 : decode cL_law 452 = .ok (.iload_n 3, 1) := by decide +kernel
theorem dL_law_453 : decode cL_law 453 = .ok (.iconst 1, 1) := by decide +kernel
theorem dL_law_454 : decode cL_law 454 = .ok (.iadd, 1) := by decide +kernel
theorem dL_law_455 : decode cL_law 455 = .ok (.iaload, 1) := by decide +kernel
theorem dL_law_456 : decode cL_law 456 = .ok (.aload_n 0, 1) := by decide +kernel
theorem dL_law_457 : decode cL_law 457 = .ok (.iload_n 3, 1) := by decide +kernel
theorem dL_law_458 : decode cL_law 458 = .ok (.iconst 2, 1) := by decide +kernel
theorem dL_law_459 : decode cL_law 459 = .ok (.iadd, 1) := by decide +kernel
theorem dL_law_460 : decode cL_law 460 = .ok (.iaload, 1) := by decide +kernel
theorem dL_law_461 : decode cL_law 461 = .ok (.invokevirtual 63, 3) := by decide +kernel
theorem dL_law_464 : decode cL_law 464 = .ok (.if_icmp .eq 348, 3) := by decide +kernel
theorem dL_law_467 : decode cL_law 467 = .ok (.iconst 0, 1) := by decide +kernel
theorem dL_law_468 : decode cL_law 468 = .ok (.ireturn, 1) := by decide +kernel
theorem dL_law_469 : decode cL_law 469 = .ok (.aload_n 1, 1) := by decide +kernel
theorem dL_law_470 : decode cL_law 470 = .ok (.aload_n 0, 1) := by decide +kernel
theorem dL_law_471 : decode cL_law 471 = .ok (.iload_n 3, 1) := by decide +kernel
theorem dL_law_472 : decode cL_law 472 = .ok (.iconst 1, 1) := by decide +kernel
theorem dL_law_473 : decode cL_law 473 = .ok (.iadd, 1) := by decide +kernel
theorem dL_law_474 : decode cL_law 474 = .ok (.iaload, 1) := by decide +kernel
theorem dL_law_475 : decode cL_law 475 = .ok (.aload_n 0, 1) := by decide +kernel
theorem dL_law_476 : decode cL_law 476 = .ok (.iload_n 3, 1) := by decide +kernel
theorem dL_law_477 : decode cL_law 477 = .ok (.iconst 2, 1) := by decide +kernel
theorem dL_law_478 : decode cL_law 478 = .ok (.iadd, 1) := by decide +kernel
theorem dL_law_479 : decode cL_law 479 = .ok (.iaload, 1) := by decide +kernel
theorem dL_law_480 : decode cL_law 480 = .ok (.aload_n 0, 1) := by decide +kernel
theorem dL_law_481 : decode cL_law 481 = .ok (.iload_n 3, 1) := by decide +kernel
theorem dL_law_482 : decode cL_law 482 = .ok (.iconst 3, 1) := by decide +kernel
theorem dL_law_483 : decode cL_law 483 = .ok (.iadd, 1) := by decide +kernel
theorem dL_law_484 : decode cL_law 484 = .ok (.iaload, 1) := by decide +kernel
theorem dL_law_485 : decode cL_law 485 = .ok (.invokevirtual 64, 3) := by decide +kernel
theorem dL_law_488 : decode cL_law 488 = .ok (.aload_n 2, 1) := by decide +kernel
theorem dL_law_489 : decode cL_law 489 = .ok (.aload_n 0, 1) := by decide +kernel
theorem dL_law_490 : decode cL_law 490 = .ok (.iload_n 3, 1) := by decide +kernel
theorem dL_law_491 : decode cL_law 491 = .ok (.iconst 1, 1) := by decide +kernel
theorem dL_law_492 : decode cL_law 492 = .ok (.iadd, 1) := by decide +kernel
theorem dL_law_493 : decode cL_law 493 = .ok (.iaload, 1) := by decide +kernel
theorem dL_law_494 : decode cL_law 494 = .ok (.aload_n 0, 1) := by decide +kernel
theorem dL_law_495 : decode cL_law 495 = .ok (.iload_n 3, 1) := by decide +kernel
theorem dL_law_496 : decode cL_law 496 = .ok (.iconst 2, 1) := by decide +kernel
theorem dL_law_497 : decode cL_law 497 = .ok (.iadd, 1) := by decide +kernel
theorem dL_law_498 : decode cL_law 498 = .ok (.iaload, 1) := by decide +kernel
theorem dL_law_499 : decode cL_law 499 = .ok (.aload_n 0, 1) := by decide +kernel
theorem dL_law_500 : decode cL_law 500 = .ok (.iload_n 3, 1) := by decide +kernel
theorem dL_law_501 : decode cL_law 501 = .ok (.iconst 3, 1) := by decide +kernel
theorem dL_law_502 : decode cL_law 502 = .ok (.iadd, 1) := by decide +kernel
theorem dL_law_503 : decode cL_law 503 = .ok (.iaload, 1) := by decide +kernel
theorem dL_law_504 : decode cL_law 504 = .ok (.invokevirtual 68, 3) := by decide +kernel
theorem dL_law_507 : decode cL_law 507 = .ok (.if_icmp .eq 305, 3) := by decide +kernel
theorem dL_law_510 : decode cL_law 510 = .ok (.iconst 0, 1) := by decide +kernel
theorem dL_law_511 : decode cL_law 511 = .ok (.ireturn, 1) := by decide +kernel
theorem dL_law_512 : decode cL_law 512 = .ok (.aload_n 1, 1) := by decide +kernel
theorem dL_law_513 : decode cL_law 513 = .ok (.aload_n 0, 1) := by decide +kernel
theorem dL_law_514 : decode cL_law 514 = .ok (.iload_n 3, 1) := by decide +kernel
theorem dL_law_515 : decode cL_law 515 = .ok (.iconst 1, 1) := by decide +kernel
theorem dL_law_516 : decode cL_law 516 = .ok (.iadd, 1) := by decide +kernel
theorem dL_law_517 : decode cL_law 517 = .ok (.iaload, 1) := by decide +kernel
theorem dL_law_518 : decode cL_law 518 = .ok (.invokevirtual 69, 3) := by decide +kernel
theorem dL_law_521 : decode cL_law 521 = .ok (.aload_n 2, 1) := by decide +kernel
theorem dL_law_522 : decode cL_law 522 = .ok (.aload_n 0, 1) := by decide +kernel
theorem dL_law_523 : decode cL_law 523 = .ok (.iload_n 3, 1) := by decide +kernel
theorem dL_law_524 : decode cL_law 524 = .ok (.iconst 1, 1) := by decide +kernel
theorem dL_law_525 : decode cL_law 525 = .ok (.iadd, 1) := by decide +kernel
theorem dL_law_526 : decode cL_law 526 = .ok (.iaload, 1) := by decide +kernel
theorem dL_law_527 : decode cL_law 527 = .ok (.invokevirtual 72, 3) := by decide +kernel
theorem dL_law_530 : decode cL_law 530 = .ok (.if_icmp .eq 282, 3) := by decide +kernel
theorem dL_law_533 : decode cL_law 533 = .ok (.iconst 0, 1) := by decide +kernel
theorem dL_law_534 : decode cL_law 534 = .ok (.ireturn, 1) := by decide +kernel
theorem dL_law_535 : decode cL_law 535 = .ok (.aload_n 1, 1) := by decide +kernel
theorem dL_law_536 : decode cL_law 536 = .ok (.aload_n 0, 1) := by decide +kernel
theorem dL_law_537 : decode cL_law 537 = .ok (.iload_n 3, 1) := by decide +kernel
theorem dL_law_538 : decode cL_law 538 = .ok (.iconst 1, 1) := by decide +kernel
theorem dL_law_539 : decode cL_law 539 = .ok (.iadd, 1) := by decide +kernel
theorem dL_law_540 : decode cL_law 540 = .ok (.iaload, 1) := by decide +kernel
theorem dL_law_541 : decode cL_law 541 = .ok (.aload_n 0, 1) := by decide +kernel
theorem dL_law_542 : decode cL_law 542 = .ok (.iload_n 3, 1) := by decide +kernel
theorem dL_law_543 : decode cL_law 543 = .ok (.iconst 2, 1) := by decide +kernel
theorem dL_law_544 : decode cL_law 544 = .ok (.iadd, 1) := by decide +kernel
theorem dL_law_545 : decode cL_law 545 = .ok (.iaload, 1) := by decide +kernel
theorem dL_law_546 : decode cL_law 546 = .ok (.invokevirtual 73, 3) := by decide +kernel
theorem dL_law_549 : decode cL_law 549 = .ok (.aload_n 2, 1) := by decide +kernel
theorem dL_law_550 : decode cL_law 550 = .ok (.aload_n 0, 1) := by decide +kernel
theorem dL_law_551 : decode cL_law 551 = .ok (.iload_n 3, 1) := by decide +kernel
theorem dL_law_552 : decode cL_law 552 = .ok (.iconst 1, 1) := by decide +kernel
theorem dL_law_553 : decode cL_law 553 = .ok (.iadd, 1) := by decide +kernel
theorem dL_law_554 : decode cL_law 554 = .ok (.iaload, 1) := by decide +kernel
theorem dL_law_555 : decode cL_law 555 = .ok (.aload_n 0, 1) := by decide +kernel
theorem dL_law_556 : decode cL_law 556 = .ok (.iload_n 3, 1) := by decide +kernel
theorem dL_law_557 : decode cL_law 557 = .ok (.iconst 2, 1) := by decide +kernel
theorem dL_law_558 : decode cL_law 558 = .ok (.iadd, 1) := by decide +kernel
theorem dL_law_559 : decode cL_law 559 = .ok (.iaload, 1) := by decide +kernel
theorem dL_law_560 : decode cL_law 560 = .ok (.invokevirtual 76, 3) := by decide +kernel
theorem dL_law_563 : decode cL_law 563 = .ok (.if_icmp .eq 249, 3) := by decide +kernel
theorem dL_law_566 : decode cL_law 566 = .ok (.iconst 0, 1) := by decide +kernel
theorem dL_law_567 : decode cL_law 567 = .ok (.ireturn, 1) := by decide +kernel
theorem dL_law_568 : decode cL_law 568 = .ok (.aload_n 1, 1) := by decide +kernel
theorem dL_law_569 : decode cL_law 569 = .ok (.aload_n 0, 1) := by decide +kernel
theorem dL_law_570 : decode cL_law 570 = .ok (.iload_n 3, 1) := by decide +kernel
theorem dL_law_571 : decode cL_law 571 = .ok (.iconst 1, 1) := by decide +kernel
theorem dL_law_572 : decode cL_law 572 = .ok (.iadd, 1) := by decide +kernel
theorem dL_law_573 : decode cL_law 573 = .ok (.iaload, 1) := by decide +kernel
theorem dL_law_574 : decode cL_law 574 = .ok (.invokevirtual 77, 3) := by decide +kernel
theorem dL_law_577 : decode cL_law 577 = .ok (.aload_n 2, 1) := by decide +kernel
theorem dL_law_578 : decode cL_law 578 = .ok (.aload_n 0, 1) := by decide +kernel
theorem dL_law_579 : decode cL_law 579 = .ok (.iload_n 3, 1) := by decide +kernel
theorem dL_law_580 : decode cL_law 580 = .ok (.iconst 1, 1) := by decide +kernel
theorem dL_law_581 : decode cL_law 581 = .ok (.iadd, 1) := by decide +kernel
theorem dL_law_582 : decode cL_law 582 = .ok (.iaload, 1) := by decide +kernel
theorem dL_law_583 : decode cL_law 583 = .ok (.invokevirtual 80, 3) := by decide +kernel
theorem dL_law_586 : decode cL_law 586 = .ok (.if_icmp .eq 226, 3) := by decide +kernel
theorem dL_law_589 : decode cL_law 589 = .ok (.iconst 0, 1) := by decide +kernel
theorem dL_law_590 : decode cL_law 590 = .ok (.ireturn, 1) := by decide +kernel
theorem dL_law_591 : decode cL_law 591 = .ok (.aload_n 1, 1) := by decide +kernel
theorem dL_law_592 : decode cL_law 592 = .ok (.aload_n 0, 1) := by decide +kernel
theorem dL_law_593 : decode cL_law 593 = .ok (.iload_n 3, 1) := by decide +kernel
theorem dL_law_594 : decode cL_law 594 = .ok (.iconst 1, 1) := by decide +kernel
theorem dL_law_595 : decode cL_law 595 = .ok (.iadd, 1) := by decide +kernel
theorem dL_law_596 : decode cL_law 596 = .ok (.iaload, 1) := by decide +kernel
theorem dL_law_597 : decode cL_law 597 = .ok (.aload_n 0, 1) := by decide +kernel
theorem dL_law_598 : decode cL_law 598 = .ok (.iload_n 3, 1) := by decide +kernel
theorem dL_law_599 : decode cL_law 599 = .ok (.iconst 2, 1) := by decide +kernel
theorem dL_law_600 : decode cL_law 600 = .ok (.iadd, 1) := by decide +kernel
theorem dL_law_601 : decode cL_law 601 = .ok (.iaload, 1) := by decide +kernel
theorem dL_law_602 : decode cL_law 602 = .ok (.aload_n 0, 1) := by decide +kernel
theorem dL_law_603 : decode cL_law 603 = .ok (.iload_n 3, 1) := by decide +kernel
theorem dL_law_604 : decode cL_law 604 = .ok (.iconst 3, 1) := by decide +kernel
theorem dL_law_605 : decode cL_law 605 = .ok (.iadd, 1) := by decide +kernel
theorem dL_law_606 : decode cL_law 606 = .ok (.iaload, 1) := by decide +kernel
theorem dL_law_607 : decode cL_law 607 = .ok (.aload_n 0, 1) := by decide +kernel
theorem dL_law_608 : decode cL_law 608 = .ok (.iload_n 3, 1) := by decide +kernel
theorem dL_law_609 : decode cL_law 609 = .ok (.iconst 4, 1) := by decide +kernel
theorem dL_law_610 : decode cL_law 610 = .ok (.iadd, 1) := by decide +kernel
theorem dL_law_611 : decode cL_law 611 = .ok (.iaload, 1) := by decide +kernel
theorem dL_law_612 : decode cL_law 612 = .ok (.invokevirtual 81, 3) := by decide +kernel
theorem dL_law_615 : decode cL_law 615 = .ok (.aload_n 2, 1) := by decide +kernel
theorem dL_law_616 : decode cL_law 616 = .ok (.aload_n 0, 1) := by decide +kernel
theorem dL_law_617 : decode cL_law 617 = .ok (.iload_n 3, 1) := by decide +kernel
theorem dL_law_618 : decode cL_law 618 = .ok (.iconst 1, 1) := by decide +kernel
theorem dL_law_619 : decode cL_law 619 = .ok (.iadd, 1) := by decide +kernel
theorem dL_law_620 : decode cL_law 620 = .ok (.iaload, 1) := by decide +kernel
theorem dL_law_621 : decode cL_law 621 = .ok (.aload_n 0, 1) := by decide +kernel
theorem dL_law_622 : decode cL_law 622 = .ok (.iload_n 3, 1) := by decide +kernel
theorem dL_law_623 : decode cL_law 623 = .ok (.iconst 2, 1) := by decide +kernel
theorem dL_law_624 : decode cL_law 624 = .ok (.iadd, 1) := by decide +kernel
theorem dL_law_625 : decode cL_law 625 = .ok (.iaload, 1) := by decide +kernel
theorem dL_law_626 : decode cL_law 626 = .ok (.aload_n 0, 1) := by decide +kernel
theorem dL_law_627 : decode cL_law 627 = .ok (.iload_n 3, 1) := by decide +kernel
theorem dL_law_628 : decode cL_law 628 = .ok (.iconst 3, 1) := by decide +kernel
theorem dL_law_629 : decode cL_law 629 = .ok (.iadd, 1) := by decide +kernel
theorem dL_law_630 : decode cL_law 630 = .ok (.iaload, 1) := by decide +kernel
theorem dL_law_631 : decode cL_law 631 = .ok (.aload_n 0, 1) := by decide +kernel
theorem dL_law_632 : decode cL_law 632 = .ok (.iload_n 3, 1) := by decide +kernel
theorem dL_law_633 : decode cL_law 633 = .ok (.iconst 4, 1) := by decide +kernel
theorem dL_law_634 : decode cL_law 634 = .ok (.iadd, 1) := by decide +kernel
theorem dL_law_635 : decode cL_law 635 = .ok (.iaload, 1) := by decide +kernel
theorem dL_law_636 : decode cL_law 636 = .ok (.invokevirtual 85, 3) := by decide +kernel
theorem dL_law_639 : decode cL_law 639 = .ok (.if_icmp .eq 173, 3) := by decide +kernel
theorem dL_law_642 : decode cL_law 642 = .ok (.iconst 0, 1) := by decide +kernel
theorem dL_law_643 : decode cL_law 643 = .ok (.ireturn, 1) := by decide +kernel
theorem dL_law_644 : decode cL_law 644 = .ok (.aload_n 1, 1) := by decide +kernel
theorem dL_law_645 : decode cL_law 645 = .ok (.aload_n 0, 1) := by decide +kernel
theorem dL_law_646 : decode cL_law 646 = .ok (.iload_n 3, 1) := by decide +kernel
theorem dL_law_647 : decode cL_law 647 = .ok (.iconst 1, 1) := by decide +kernel
theorem dL_law_648 : decode cL_law 648 = .ok (.iadd, 1) := by decide +kernel
theorem dL_law_649 : decode cL_law 649 = .ok (.iaload, 1) := by decide +kernel
theorem dL_law_650 : decode cL_law 650 = .ok (.invokevirtual 86, 3) := by decide +kernel
theorem dL_law_653 : decode cL_law 653 = .ok (.aload_n 2, 1) := by decide +kernel
theorem dL_law_654 : decode cL_law 654 = .ok (.aload_n 0, 1) := by decide +kernel
theorem dL_law_655 : decode cL_law 655 = .ok (.iload_n 3, 1) := by decide +kernel
theorem dL_law_656 : decode cL_law 656 = .ok (.iconst 1, 1) := by decide +kernel
theorem dL_law_657 : decode cL_law 657 = .ok (.iadd, 1) := by decide +kernel
theorem dL_law_658 : decode cL_law 658 = .ok (.iaload, 1) := by decide +kernel
theorem dL_law_659 : decode cL_law 659 = .ok (.invokevirtual 89, 3) := by decide +kernel
theorem dL_law_662 : decode cL_law 662 = .ok (.if_icmp .eq 150, 3) := by decide +kernel
theorem dL_law_665 : decode cL_law 665 = .ok (.iconst 0, 1) := by decide +kernel
theorem dL_law_666 : decode cL_law 666 = .ok (.ireturn, 1) := by decide +kernel
theorem dL_law_667 : decode cL_law 667 = .ok (.aload_n 1, 1) := by decide +kernel
theorem dL_law_668 : decode cL_law 668 = .ok (.aload_n 0, 1) := by decide +kernel
theorem dL_law_669 : decode cL_law 669 = .ok (.iload_n 3, 1) := by decide +kernel
theorem dL_law_670 : decode cL_law 670 = .ok (.iconst 1, 1) := by decide +kernel
theorem dL_law_671 : decode cL_law 671 = .ok (.iadd, 1) := by decide +kernel
theorem dL_law_672 : decode cL_law 672 = .ok (.iaload, 1) := by decide +kernel
theorem dL_law_673 : decode cL_law 673 = .ok (.invokevirtual 90, 3) := by decide +kernel
theorem dL_law_676 : decode cL_law 676 = .ok (.aload_n 2, 1) := by decide +kernel
theorem dL_law_677 : decode cL_law 677 = .ok (.aload_n 0, 1) := by decide +kernel
theorem dL_law_678 : decode cL_law 678 = .ok (.iload_n 3, 1) := by decide +kernel
theorem dL_law_679 : decode cL_law 679 = .ok (.iconst 1, 1) := by decide +kernel
theorem dL_law_680 : decode cL_law 680 = .ok (.iadd, 1) := by decide +kernel
theorem dL_law_681 : decode cL_law 681 = .ok (.iaload, 1) := by decide +kernel
theorem dL_law_682 : decode cL_law 682 = .ok (.invokevirtual 93, 3) := by decide +kernel
theorem dL_law_685 : decode cL_law 685 = .ok (.if_icmp .eq 127, 3) := by decide +kernel
theorem dL_law_688 : decode cL_law 688 = .ok (.iconst 0, 1) := by decide +kernel
theorem dL_law_689 : decode cL_law 689 = .ok (.ireturn, 1) := by decide +kernel
theorem dL_law_690 : decode cL_law 690 = .ok (.aload_n 1, 1) := by decide +kernel
theorem dL_law_691 : decode cL_law 691 = .ok (.aload_n 0, 1) := by decide +kernel
theorem dL_law_692 : decode cL_law 692 = .ok (.iload_n 3, 1) := by decide +kernel
theorem dL_law_693 : decode cL_law 693 = .ok (.iconst 1, 1) := by decide +kernel
theorem dL_law_694 : decode cL_law 694 = .ok (.iadd, 1) := by decide +kernel
theorem dL_law_695 : decode cL_law 695 = .ok (.iaload, 1) := by decide +kernel
theorem dL_law_696 : decode cL_law 696 = .ok (.aload_n 0, 1) := by decide +kernel
theorem dL_law_697 : decode cL_law 697 = .ok (.iload_n 3, 1) := by decide +kernel
theorem dL_law_698 : decode cL_law 698 = .ok (.iconst 2, 1) := by decide +kernel
theorem dL_law_699 : decode cL_law 699 = .ok (.iadd, 1) := by decide +kernel
theorem dL_law_700 : decode cL_law 700 = .ok (.iaload, 1) := by decide +kernel
theorem dL_law_701 : decode cL_law 701 = .ok (.aload_n 0, 1) := by decide +kernel
theorem dL_law_702 : decode cL_law 702 = .ok (.iload_n 3, 1) := by decide +kernel
theorem dL_law_703 : decode cL_law 703 = .ok (.iconst 3, 1) := by decide +kernel
theorem dL_law_704 : decode cL_law 704 = .ok (.iadd, 1) := by decide +kernel
theorem dL_law_705 : decode cL_law 705 = .ok (.iaload, 1) := by decide +kernel
theorem dL_law_706 : decode cL_law 706 = .ok (.invokevirtual 94, 3) := by decide +kernel
theorem dL_law_709 : decode cL_law 709 = .ok (.aload_n 2, 1) := by decide +kernel
theorem dL_law_710 : decode cL_law 710 = .ok (.aload_n 0, 1) := by decide +kernel
theorem dL_law_711 : decode cL_law 711 = .ok (.iload_n 3, 1) := by decide +kernel
theorem dL_law_712 : decode cL_law 712 = .ok (.iconst 1, 1) := by decide +kernel
theorem dL_law_713 : decode cL_law 713 = .ok (.iadd, 1) := by decide +kernel
theorem dL_law_714 : decode cL_law 714 = .ok (.iaload, 1) := by decide +kernel
theorem dL_law_715 : decode cL_law 715 = .ok (.aload_n 0, 1) := by decide +kernel
theorem dL_law_716 : decode cL_law 716 = .ok (.iload_n 3, 1) := by decide +kernel
theorem dL_law_717 : decode cL_law 717 = .ok (.iconst 2, 1) := by decide +kernel
theorem dL_law_718 : decode cL_law 718 = .ok (.iadd, 1) := by decide +kernel
theorem dL_law_719 : decode cL_law 719 = .ok (.iaload, 1) := by decide +kernel
theorem dL_law_720 : decode cL_law 720 = .ok (.aload_n 0, 1) := by decide +kernel
theorem dL_law_721 : decode cL_law 721 = .ok (.iload_n 3, 1) := by decide +kernel
theorem dL_law_722 : decode cL_law 722 = .ok (.iconst 3, 1) := by decide +kernel
theorem dL_law_723 : decode cL_law 723 = .ok (.iadd, 1) := by decide +kernel
theorem dL_law_724 : decode cL_law 724 = .ok (.iaload, 1) := by decide +kernel
theorem dL_law_725 : decode cL_law 725 = .ok (.invokevirtual 97, 3) := by decide +kernel
theorem dL_law_728 : decode cL_law 728 = .ok (.if_icmp .eq 84, 3) := by decide +kernel
theorem dL_law_731 : decode cL_law 731 = .ok (.iconst 0, 1) := by decide +kernel
theorem dL_law_732 : decode cL_law 732 = .ok (.ireturn, 1) := by decide +kernel
theorem dL_law_733 : decode cL_law 733 = .ok (.aload_n 1, 1) := by decide +kernel
theorem dL_law_734 : decode cL_law 734 = .ok (.aload_n 0, 1) := by decide +kernel
theorem dL_law_735 : decode cL_law 735 = .ok (.iload_n 3, 1) := by decide +kernel
theorem dL_law_736 : decode cL_law 736 = .ok (.iconst 1, 1) := by decide +kernel
theorem dL_law_737 : decode cL_law 737 = .ok (.iadd, 1) := by decide +kernel
theorem dL_law_738 : decode cL_law 738 = .ok (.iaload, 1) := by decide +kernel
theorem dL_law_739 : decode cL_law 739 = .ok (.invokevirtual 98, 3) := by decide +kernel
theorem dL_law_742 : decode cL_law 742 = .ok (.aload_n 2, 1) := by decide +kernel
theorem dL_law_743 : decode cL_law 743 = .ok (.aload_n 0, 1) := by decide +kernel
theorem dL_law_744 : decode cL_law 744 = .ok (.iload_n 3, 1) := by decide +kernel
theorem dL_law_745 : decode cL_law 745 = .ok (.iconst 1, 1) := by decide +kernel
theorem dL_law_746 : decode cL_law 746 = .ok (.iadd, 1) := by decide +kernel
theorem dL_law_747 : decode cL_law 747 = .ok (.iaload, 1) := by decide +kernel
theorem dL_law_748 : decode cL_law 748 = .ok (.invokevirtual 101, 3) := by decide +kernel
theorem dL_law_751 : decode cL_law 751 = .ok (.if_icmp .eq 61, 3) := by decide +kernel
theorem dL_law_754 : decode cL_law 754 = .ok (.iconst 0, 1) := by decide +kernel
theorem dL_law_755 : decode cL_law 755 = .ok (.ireturn, 1) := by decide +kernel
theorem dL_law_756 : decode cL_law 756 = .ok (.aload_n 1, 1) := by decide +kernel
theorem dL_law_757 : decode cL_law 757 = .ok (.aload_n 0, 1) := by decide +kernel
theorem dL_law_758 : decode cL_law 758 = .ok (.iload_n 3, 1) := by decide +kernel
theorem dL_law_759 : decode cL_law 759 = .ok (.iconst 1, 1) := by decide +kernel
theorem dL_law_760 : decode cL_law 760 = .ok (.iadd, 1) := by decide +kernel
theorem dL_law_761 : decode cL_law 761 = .ok (.iaload, 1) := by decide +kernel
theorem dL_law_762 : decode cL_law 762 = .ok (.aload_n 0, 1) := by decide +kernel
theorem dL_law_763 : decode cL_law 763 = .ok (.iload_n 3, 1) := by decide +kernel
theorem dL_law_764 : decode cL_law 764 = .ok (.iconst 2, 1) := by decide +kernel
theorem dL_law_765 : decode cL_law 765 = .ok (.iadd, 1) := by decide +kernel
theorem dL_law_766 : decode cL_law 766 = .ok (.iaload, 1) := by decide +kernel
theorem dL_law_767 : decode cL_law 767 = .ok (.invokevirtual 102, 3) := by decide +kernel
theorem dL_law_770 : decode cL_law 770 = .ok (.aload_n 2, 1) := by decide +kernel
theorem dL_law_771 : decode cL_law 771 = .ok (.aload_n 0, 1) := by decide +kernel
theorem dL_law_772 : decode cL_law 772 = .ok (.iload_n 3, 1) := by decide +kernel
theorem dL_law_773 : decode cL_law 773 = .ok (.iconst 1, 1) := by decide +kernel
theorem dL_law_774 : decode cL_law 774 = .ok (.iadd, 1) := by decide +kernel
theorem dL_law_775 : decode cL_law 775 = .ok (.iaload, 1) := by decide +kernel
theorem dL_law_776 : decode cL_law 776 = .ok (.aload_n 0, 1) := by decide +kernel
theorem dL_law_777 : decode cL_law 777 = .ok (.iload_n 3, 1) := by decide +kernel
theorem dL_law_778 : decode cL_law 778 = .ok (.iconst 2, 1) := by decide +kernel
theorem dL_law_779 : decode cL_law 779 = .ok (.iadd, 1) := by decide +kernel
theorem dL_law_780 : decode cL_law 780 = .ok (.iaload, 1) := by decide +kernel
theorem dL_law_781 : decode cL_law 781 = .ok (.invokevirtual 105, 3) := by decide +kernel
theorem dL_law_784 : decode cL_law 784 = .ok (.if_icmp .eq 28, 3) := by decide +kernel
theorem dL_law_787 : decode cL_law 787 = .ok (.iconst 0, 1) := by decide +kernel
theorem dL_law_788 : decode cL_law 788 = .ok (.ireturn, 1) := by decide +kernel
theorem dL_law_789 : decode cL_law 789 = .ok (.aload_n 1, 1) := by decide +kernel
theorem dL_law_790 : decode cL_law 790 = .ok (.aload_n 0, 1) := by decide +kernel
theorem dL_law_791 : decode cL_law 791 = .ok (.iload_n 3, 1) := by decide +kernel
theorem dL_law_792 : decode cL_law 792 = .ok (.iconst 1, 1) := by decide +kernel
theorem dL_law_793 : decode cL_law 793 = .ok (.iadd, 1) := by decide +kernel
theorem dL_law_794 : decode cL_law 794 = .ok (.iaload, 1) := by decide +kernel
theorem dL_law_795 : decode cL_law 795 = .ok (.invokevirtual 106, 3) := by decide +kernel
theorem dL_law_798 : decode cL_law 798 = .ok (.aload_n 2, 1) := by decide +kernel
theorem dL_law_799 : decode cL_law 799 = .ok (.aload_n 0, 1) := by decide +kernel
theorem dL_law_800 : decode cL_law 800 = .ok (.iload_n 3, 1) := by decide +kernel
theorem dL_law_801 : decode cL_law 801 = .ok (.iconst 1, 1) := by decide +kernel
theorem dL_law_802 : decode cL_law 802 = .ok (.iadd, 1) := by decide +kernel
theorem dL_law_803 : decode cL_law 803 = .ok (.iaload, 1) := by decide +kernel
theorem dL_law_804 : decode cL_law 804 = .ok (.invokevirtual 109, 3) := by decide +kernel
theorem dL_law_807 : decode cL_law 807 = .ok (.if_icmp .eq 5, 3) := by decide +kernel
theorem dL_law_810 : decode cL_law 810 = .ok (.iconst 0, 1) := by decide +kernel
theorem dL_law_811 : decode cL_law 811 = .ok (.ireturn, 1) := by decide +kernel
theorem dL_law_812 : decode cL_law 812 = .ok (.iinc 3 6, 3) := by decide +kernel
theorem dL_law_815 : decode cL_law 815 = .ok (.goto (-797), 3) := by decide +kernel
theorem dL_law_818 : decode cL_law 818 = .ok (.iconst 1, 1) := by decide +kernel
theorem dL_law_819 : decode cL_law 819 = .ok (.ireturn, 1) := by decide +kernel
end
section
/-! names of methods with their bytes; words by their places -/
theorem okv_rv (x : Option Nat) : okv (rv x) = true := by cases x <;> rfl
theorem rv_or (x : Option Nat) : rv x = .null ∨ ∃ a, rv x = .ref a := by
  cases x
  · exact Or.inl rfl
  · exact Or.inr ⟨_, rfl⟩
def aVm (Mc : aM) (n ci : Nat) : Prop := aCo Mc n ∧ Cond.instanceMethod Mc.1 ∈ aTs ∧ n + 1 ≤ Mc.2.2.1 ∧ ∃ r : vw_C, vwCl[ci]? = some r ∧ Cond.selects r.1 Mc.1 Mc.1 ∈ aTs
def aSm (Mc : aM) (n : Nat) : Prop := aCo Mc n ∧ Cond.static Mc.1 ∈ aTs ∧ n ≤ Mc.2.2.1
def aIm (Mc : aM) (n : Nat) : Prop := aCo Mc n ∧ Cond.instanceMethod Mc.1 ∈ aTs ∧ n + 1 ≤ Mc.2.2.1 ∧ Mc.2.2.2 = none ∧ Mc.1.name = "<init>"
section EV
variable {l : Launch} {G : aG} {d mc ms : Nat} {M : aM} {pc : Nat} {ls st : List Value} {h : aH} {Q : Option Value → aH → Prop}
variable {mc1 ms1 idx n : Nat} {Mc : aM} {Q' : Option Value → aH → Prop}
theorem Ev_V {a ci : Nat} (avs : List Value) (hdg : decode M.2.1 pc = .ok (.invokevirtual idx, 3)) (hv : aVm Mc n ci) (w1 : Cond.methodLink M.1.cls idx Mc.1 ∈ aTs) (hk : hK h a = ci) (hn : avs.length = n) (hok : avs.all okv = true) (hst : st.all okv = true) (hlen : st.length ≤ 8) (hC : Ev l G d mc1 ms1 Mc 0 (en Mc.2.2.1 (.ref a :: avs)) [] h Q') (kk : ∀ v h', Q' v h' → Ev l G (d + 1) mc ms M (pc + 3) ls (v.toList ++ st) h' Q) : Ev l G (d + 1) (mc1 + mc) (ms1 + ms) M pc ls (avs.reverse ++ .ref a :: st) h Q := by
  obtain ⟨h1, h2, h3, r, h4, h5⟩ := hv
  exact Ev_callV hdg h1 w1 h2 h5 hk h4 hn hok h3 hst hlen hC kk
theorem Ev_S (avs : List Value) (hdg : decode M.2.1 pc = .ok (.invokestatic idx, 3)) (hv : aSm Mc n) (w1 : Cond.methodLink M.1.cls idx Mc.1 ∈ aTs) (hn : avs.length = n) (hok : avs.all okv = true) (hst : st.all okv = true) (hlen : st.length ≤ 8) (hC : Ev l G d mc1 ms1 Mc 0 (en Mc.2.2.1 avs) [] h Q') (kk : ∀ v h', Q' v h' → Ev l G (d + 1) mc ms M (pc + 3) ls (v.toList ++ st) h' Q) : Ev l G (d + 1) (mc1 + mc) (ms1 + ms) M pc ls (avs.reverse ++ st) h Q :=
  Ev_callS hdg hv.1 w1 hv.2.1 hn hok hv.2.2 hst hlen hC kk
theorem Ev_SN {host : String} (avs : List Value) (hdg : decode M.2.1 pc = .ok (.invokestatic idx, 3)) (hv : aSm Mc n) (w1 : Cond.methodLinkNest M.1.cls idx Mc.1 host ∈ lw_tbl) (hn : avs.length = n) (hok : avs.all okv = true) (hst : st.all okv = true) (hlen : st.length ≤ 8) (hC : Ev l G d mc1 ms1 Mc 0 (en Mc.2.2.1 avs) [] h Q') (kk : ∀ v h', Q' v h' → Ev l G (d + 1) mc ms M (pc + 3) ls (v.toList ++ st) h' Q) : Ev l G (d + 1) (mc1 + mc) (ms1 + ms) M pc ls (avs.reverse ++ st) h Q :=
  Ev_callSN hdg hv.1 w1 hv.2.1 hn hok hv.2.2 hst hlen hC kk
theorem Ev_I {a : Nat} (avs : List Value) (hdg : decode M.2.1 pc = .ok (.invokespecial idx, 3)) (hv : aIm Mc n) (w1 : Cond.methodLink M.1.cls idx Mc.1 ∈ aTs) (hn : avs.length = n) (hok : avs.all okv = true) (hst : st.all okv = true) (hlen : st.length ≤ 8) (hC : Ev l G d mc1 ms1 Mc 0 (en Mc.2.2.1 (.ref a :: avs)) [] h Q') (kk : ∀ v h', Q' v h' → Ev l G (d + 1) mc ms M (pc + 3) ls (v.toList ++ st) h' Q) : Ev l G (d + 1) (mc1 + mc) (ms1 + ms) M pc ls (avs.reverse ++ .ref a :: st) h Q :=
  Ev_callI hdg hv.1 hv.2.2.2.1 hv.2.2.2.2 w1 hv.2.1 hn hok hv.2.2.1 hst hlen hC kk
theorem Ev_IN {a : Nat} {host : String} (avs : List Value) (hdg : decode M.2.1 pc = .ok (.invokespecial idx, 3)) (hv : aIm Mc n) (w1 : Cond.methodLinkNest M.1.cls idx Mc.1 host ∈ lw_tbl) (hn : avs.length = n) (hok : avs.all okv = true) (hst : st.all okv = true) (hlen : st.length ≤ 8) (hC : Ev l G d mc1 ms1 Mc 0 (en Mc.2.2.1 (.ref a :: avs)) [] h Q') (kk : ∀ v h', Q' v h' → Ev l G (d + 1) mc ms M (pc + 3) ls (v.toList ++ st) h' Q) : Ev l G (d + 1) (mc1 + mc) (ms1 + ms) M pc ls (avs.reverse ++ .ref a :: st) h Q :=
  Ev_callIN hdg hv.1 hv.2.2.2.1 hv.2.2.2.2 w1 hv.2.1 hn hok hv.2.2.1 hst hlen hC kk
end EV
end
section
abbrev mX0_init : aM := (yX0_init, cX0_init, 3, none)
theorem iX0_init : aIm mX0_init 2 := ⟨⟨aTs_mem 727 (by decide +kernel) rfl, aTs_mem 77 (by decide +kernel) rfl, by decide, by decide, by decide +kernel, by decide, by decide⟩, aTs_mem 726 (by decide +kernel) rfl, by decide, rfl, rfl⟩
abbrev mX1_init : aM := (yX1_init, cX1_init, 4, none)
theorem iX1_init : aIm mX1_init 3 := ⟨⟨aTs_mem 669 (by decide +kernel) rfl, aTs_mem 76 (by decide +kernel) rfl, by decide, by decide, by decide +kernel, by decide, by decide⟩, aTs_mem 668 (by decide +kernel) rfl, by decide, rfl, rfl⟩
abbrev mX2_init : aM := (yX2_init, cX2_init, 1, none)
theorem iX2_init : aIm mX2_init 0 := ⟨⟨aTs_mem 285 (by decide +kernel) rfl, aTs_mem 68 (by decide +kernel) rfl, by decide, by decide, by decide +kernel, by decide, by decide⟩, aTs_mem 284 (by decide +kernel) rfl, by decide, rfl, rfl⟩
abbrev mX2_at : aM := (yX2_at, cX2_at, 2, some (.object "MadeMended$Lone"))
theorem vX2_at : aVm mX2_at 1 3 := ⟨⟨aTs_mem 801 (by decide +kernel) rfl, aTs_mem 68 (by decide +kernel) rfl, by decide, by decide, by decide +kernel, by decide, by decide⟩, aTs_mem 799 (by decide +kernel) rfl, by decide, _, rfl, aTs_mem 800 (by decide +kernel) rfl⟩
abbrev mX2_keepLost : aM := (yX2_keepLost, cX2_keepLost, 4, none)
theorem vX2_keepLost : aVm mX2_keepLost 1 3 := ⟨⟨aTs_mem 660 (by decide +kernel) rfl, aTs_mem 68 (by decide +kernel) rfl, by decide, by decide, by decide +kernel, by decide, by decide⟩, aTs_mem 658 (by decide +kernel) rfl, by decide, _, rfl, aTs_mem 659 (by decide +kernel) rfl⟩
abbrev mX2_keep : aM := (yX2_keep, cX2_keep, 2, none)
theorem vX2_keep : aVm mX2_keep 1 3 := ⟨⟨aTs_mem 687 (by decide +kernel) rfl, aTs_mem 68 (by decide +kernel) rfl, by decide, by decide, by decide +kernel, by decide, by decide⟩, aTs_mem 686 (by decide +kernel) rfl, by decide, _, rfl, aTs_mem 19 (by decide +kernel) rfl⟩
abbrev mX2_remove : aM := (yX2_remove, cX2_remove, 2, some .boolean)
theorem vX2_remove : aVm mX2_remove 1 3 := ⟨⟨aTs_mem 810 (by decide +kernel) rfl, aTs_mem 68 (by decide +kernel) rfl, by decide, by decide, by decide +kernel, by decide, by decide⟩, aTs_mem 808 (by decide +kernel) rfl, by decide, _, rfl, aTs_mem 809 (by decide +kernel) rfl⟩
abbrev mX3_init : aM := (yX3_init, cX3_init, 3, none)
theorem iX3_init : aIm mX3_init 2 := ⟨⟨aTs_mem 266 (by decide +kernel) rfl, aTs_mem 67 (by decide +kernel) rfl, by decide, by decide, by decide +kernel, by decide, by decide⟩, aTs_mem 265 (by decide +kernel) rfl, by decide, rfl, rfl⟩
abbrev mX3_fill : aM := (yX3_fill, cX3_fill, 4, none)
theorem vX3_fill : aVm mX3_fill 2 4 := ⟨⟨aTs_mem 548 (by decide +kernel) rfl, aTs_mem 67 (by decide +kernel) rfl, by decide, by decide, by decide +kernel, by decide, by decide⟩, aTs_mem 546 (by decide +kernel) rfl, by decide, _, rfl, aTs_mem 547 (by decide +kernel) rfl⟩
abbrev mX3_makeUse : aM := (yX3_makeUse, cX3_makeUse, 8, none)
theorem vX3_makeUse : aVm mX3_makeUse 3 4 := ⟨⟨aTs_mem 559 (by decide +kernel) rfl, aTs_mem 67 (by decide +kernel) rfl, by decide, by decide, by decide +kernel, by decide, by decide⟩, aTs_mem 558 (by decide +kernel) rfl, by decide, _, rfl, aTs_mem 13 (by decide +kernel) rfl⟩
abbrev mX3_makeParts : aM := (yX3_makeParts, cX3_makeParts, 7, none)
theorem vX3_makeParts : aVm mX3_makeParts 4 4 := ⟨⟨aTs_mem 565 (by decide +kernel) rfl, aTs_mem 67 (by decide +kernel) rfl, by decide, by decide, by decide +kernel, by decide, by decide⟩, aTs_mem 564 (by decide +kernel) rfl, by decide, _, rfl, aTs_mem 14 (by decide +kernel) rfl⟩
abbrev mX3_makePiece : aM := (yX3_makePiece, cX3_makePiece, 10, none)
theorem vX3_makePiece : aVm mX3_makePiece 4 4 := ⟨⟨aTs_mem 569 (by decide +kernel) rfl, aTs_mem 67 (by decide +kernel) rfl, by decide, by decide, by decide +kernel, by decide, by decide⟩, aTs_mem 568 (by decide +kernel) rfl, by decide, _, rfl, aTs_mem 15 (by decide +kernel) rfl⟩
abbrev mX3_spell : aM := (yX3_spell, cX3_spell, 4, some .int)
theorem vX3_spell : aVm mX3_spell 1 4 := ⟨⟨aTs_mem 631 (by decide +kernel) rfl, aTs_mem 67 (by decide +kernel) rfl, by decide, by decide, by decide +kernel, by decide, by decide⟩, aTs_mem 630 (by decide +kernel) rfl, by decide, _, rfl, aTs_mem 16 (by decide +kernel) rfl⟩
abbrev mX4_init : aM := (yX4_init, cX4_init, 1, none)
theorem iX4_init : aIm mX4_init 0 := ⟨⟨aTs_mem 105 (by decide +kernel) rfl, aTs_mem 59 (by decide +kernel) rfl, by decide, by decide, by decide +kernel, by decide, by decide⟩, aTs_mem 104 (by decide +kernel) rfl, by decide, rfl, rfl⟩
abbrev mX4_at : aM := (yX4_at, cX4_at, 2, some (.object "MadeMended$Thing"))
theorem vX4_at : aVm mX4_at 1 5 := ⟨⟨aTs_mem 342 (by decide +kernel) rfl, aTs_mem 59 (by decide +kernel) rfl, by decide, by decide, by decide +kernel, by decide, by decide⟩, aTs_mem 340 (by decide +kernel) rfl, by decide, _, rfl, aTs_mem 341 (by decide +kernel) rfl⟩
abbrev mX4_freeSlot : aM := (yX4_freeSlot, cX4_freeSlot, 2, some .int)
theorem vX4_freeSlot : aVm mX4_freeSlot 0 5 := ⟨⟨aTs_mem 346 (by decide +kernel) rfl, aTs_mem 59 (by decide +kernel) rfl, by decide, by decide, by decide +kernel, by decide, by decide⟩, aTs_mem 344 (by decide +kernel) rfl, by decide, _, rfl, aTs_mem 345 (by decide +kernel) rfl⟩
abbrev mX4_put : aM := (yX4_put, cX4_put, 2, none)
theorem vX4_put : aVm mX4_put 1 5 := ⟨⟨aTs_mem 366 (by decide +kernel) rfl, aTs_mem 59 (by decide +kernel) rfl, by decide, by decide, by decide +kernel, by decide, by decide⟩, aTs_mem 364 (by decide +kernel) rfl, by decide, _, rfl, aTs_mem 365 (by decide +kernel) rfl⟩
abbrev mX4_placeOf : aM := (yX4_placeOf, cX4_placeOf, 4, some .int)
theorem vX4_placeOf : aVm mX4_placeOf 1 5 := ⟨⟨aTs_mem 446 (by decide +kernel) rfl, aTs_mem 59 (by decide +kernel) rfl, by decide, by decide, by decide +kernel, by decide, by decide⟩, aTs_mem 444 (by decide +kernel) rfl, by decide, _, rfl, aTs_mem 445 (by decide +kernel) rfl⟩
abbrev mX4_shift : aM := (yX4_shift, cX4_shift, 4, some .boolean)
theorem vX4_shift : aVm mX4_shift 2 5 := ⟨⟨aTs_mem 442 (by decide +kernel) rfl, aTs_mem 59 (by decide +kernel) rfl, by decide, by decide, by decide +kernel, by decide, by decide⟩, aTs_mem 440 (by decide +kernel) rfl, by decide, _, rfl, aTs_mem 441 (by decide +kernel) rfl⟩
abbrev mX4_remove : aM := (yX4_remove, cX4_remove, 5, some .int)
theorem vX4_remove : aVm mX4_remove 1 5 := ⟨⟨aTs_mem 489 (by decide +kernel) rfl, aTs_mem 59 (by decide +kernel) rfl, by decide, by decide, by decide +kernel, by decide, by decide⟩, aTs_mem 487 (by decide +kernel) rfl, by decide, _, rfl, aTs_mem 488 (by decide +kernel) rfl⟩
abbrev mX5_init : aM := (yX5_init, cX5_init, 2, none)
theorem iX5_init : aIm mX5_init 1 := ⟨⟨aTs_mem 577 (by decide +kernel) rfl, aTs_mem 75 (by decide +kernel) rfl, by decide, by decide, by decide +kernel, by decide, by decide⟩, aTs_mem 576 (by decide +kernel) rfl, by decide, rfl, rfl⟩
abbrev mX5_shownLength : aM := (yX5_shownLength, cX5_shownLength, 1, some .int)
theorem vX5_shownLength : aVm mX5_shownLength 0 6 := ⟨⟨aTs_mem 699 (by decide +kernel) rfl, aTs_mem 75 (by decide +kernel) rfl, by decide, by decide, by decide +kernel, by decide, by decide⟩, aTs_mem 697 (by decide +kernel) rfl, by decide, _, rfl, aTs_mem 698 (by decide +kernel) rfl⟩
abbrev mX5_hasMakerOf : aM := (yX5_hasMakerOf, cX5_hasMakerOf, 2, some .boolean)
theorem vX5_hasMakerOf : aVm mX5_hasMakerOf 1 6 := ⟨⟨aTs_mem 647 (by decide +kernel) rfl, aTs_mem 75 (by decide +kernel) rfl, by decide, by decide, by decide +kernel, by decide, by decide⟩, aTs_mem 645 (by decide +kernel) rfl, by decide, _, rfl, aTs_mem 646 (by decide +kernel) rfl⟩
abbrev mX6_init : aM := (yX6_init, cX6_init, 3, none)
theorem iX6_init : aIm mX6_init 1 := ⟨⟨aTs_mem 196 (by decide +kernel) rfl, aTs_mem 64 (by decide +kernel) rfl, by decide, by decide, by decide +kernel, by decide, by decide⟩, aTs_mem 195 (by decide +kernel) rfl, by decide, rfl, rfl⟩
abbrev mX6_readItems : aM := (yX6_readItems, cX6_readItems, 3, none)
theorem vX6_readItems : aVm mX6_readItems 0 7 := ⟨⟨aTs_mem 501 (by decide +kernel) rfl, aTs_mem 64 (by decide +kernel) rfl, by decide, by decide, by decide +kernel, by decide, by decide⟩, aTs_mem 499 (by decide +kernel) rfl, by decide, _, rfl, aTs_mem 500 (by decide +kernel) rfl⟩
abbrev mX6_readWord : aM := (yX6_readWord, cX6_readWord, 3, some .int)
theorem vX6_readWord : aVm mX6_readWord 1 7 := ⟨⟨aTs_mem 536 (by decide +kernel) rfl, aTs_mem 64 (by decide +kernel) rfl, by decide, by decide, by decide +kernel, by decide, by decide⟩, aTs_mem 535 (by decide +kernel) rfl, by decide, _, rfl, aTs_mem 12 (by decide +kernel) rfl⟩
abbrev mX6_readMark : aM := (yX6_readMark, cX6_readMark, 3, some .int)
theorem vX6_readMark : aVm mX6_readMark 1 7 := ⟨⟨aTs_mem 505 (by decide +kernel) rfl, aTs_mem 64 (by decide +kernel) rfl, by decide, by decide, by decide +kernel, by decide, by decide⟩, aTs_mem 504 (by decide +kernel) rfl, by decide, _, rfl, aTs_mem 5 (by decide +kernel) rfl⟩
abbrev mX6_addMark : aM := (yX6_addMark, cX6_addMark, 3, none)
theorem vX6_addMark : aVm mX6_addMark 2 7 := ⟨⟨aTs_mem 528 (by decide +kernel) rfl, aTs_mem 64 (by decide +kernel) rfl, by decide, by decide, by decide +kernel, by decide, by decide⟩, aTs_mem 527 (by decide +kernel) rfl, by decide, _, rfl, aTs_mem 10 (by decide +kernel) rfl⟩
abbrev mX6_add : aM := (yX6_add, cX6_add, 5, none)
theorem vX6_add : aVm mX6_add 4 7 := ⟨⟨aTs_mem 532 (by decide +kernel) rfl, aTs_mem 64 (by decide +kernel) rfl, by decide, by decide, by decide +kernel, by decide, by decide⟩, aTs_mem 531 (by decide +kernel) rfl, by decide, _, rfl, aTs_mem 11 (by decide +kernel) rfl⟩
abbrev mX6_sortOfMark : aM := (yX6_sortOfMark, cX6_sortOfMark, 3, some .int)
theorem vX6_sortOfMark : aVm mX6_sortOfMark 1 7 := ⟨⟨aTs_mem 509 (by decide +kernel) rfl, aTs_mem 64 (by decide +kernel) rfl, by decide, by decide, by decide +kernel, by decide, by decide⟩, aTs_mem 508 (by decide +kernel) rfl, by decide, _, rfl, aTs_mem 6 (by decide +kernel) rfl⟩
abbrev mX6_isIndex : aM := (yX6_isIndex, cX6_isIndex, 2, some .boolean)
theorem vX6_isIndex : aVm mX6_isIndex 1 7 := ⟨⟨aTs_mem 520 (by decide +kernel) rfl, aTs_mem 64 (by decide +kernel) rfl, by decide, by decide, by decide +kernel, by decide, by decide⟩, aTs_mem 519 (by decide +kernel) rfl, by decide, _, rfl, aTs_mem 8 (by decide +kernel) rfl⟩
abbrev mX6_byteAt : aM := (yX6_byteAt, cX6_byteAt, 2, some .int)
theorem vX6_byteAt : aVm mX6_byteAt 1 7 := ⟨⟨aTs_mem 513 (by decide +kernel) rfl, aTs_mem 64 (by decide +kernel) rfl, by decide, by decide, by decide +kernel, by decide, by decide⟩, aTs_mem 512 (by decide +kernel) rfl, by decide, _, rfl, aTs_mem 7 (by decide +kernel) rfl⟩
abbrev mX6_blame : aM := (yX6_blame, cX6_blame, 3, none)
theorem vX6_blame : aVm mX6_blame 2 7 := ⟨⟨aTs_mem 524 (by decide +kernel) rfl, aTs_mem 64 (by decide +kernel) rfl, by decide, by decide, by decide +kernel, by decide, by decide⟩, aTs_mem 523 (by decide +kernel) rfl, by decide, _, rfl, aTs_mem 9 (by decide +kernel) rfl⟩
abbrev mX7_init : aM := (yX7_init, cX7_init, 1, none)
theorem iX7_init : aIm mX7_init 0 := ⟨⟨aTs_mem 90 (by decide +kernel) rfl, aTs_mem 58 (by decide +kernel) rfl, by decide, by decide, by decide +kernel, by decide, by decide⟩, aTs_mem 89 (by decide +kernel) rfl, by decide, rfl, rfl⟩
abbrev mX7_putFour : aM := (yX7_putFour, cX7_putFour, 3, none)
theorem vX7_putFour : aVm mX7_putFour 1 8 := ⟨⟨aTs_mem 330 (by decide +kernel) rfl, aTs_mem 58 (by decide +kernel) rfl, by decide, by decide, by decide +kernel, by decide, by decide⟩, aTs_mem 328 (by decide +kernel) rfl, by decide, _, rfl, aTs_mem 329 (by decide +kernel) rfl⟩
abbrev mX7_isName : aM := (yX7_isName, cX7_isName, 4, some .boolean)
theorem vX7_isName : aVm mX7_isName 0 8 := ⟨⟨aTs_mem 353 (by decide +kernel) rfl, aTs_mem 58 (by decide +kernel) rfl, by decide, by decide, by decide +kernel, by decide, by decide⟩, aTs_mem 351 (by decide +kernel) rfl, by decide, _, rfl, aTs_mem 352 (by decide +kernel) rfl⟩
abbrev mX7_cutAll : aM := (yX7_cutAll, cX7_cutAll, 2, some (.array .int))
theorem vX7_cutAll : aVm mX7_cutAll 0 8 := ⟨⟨aTs_mem 358 (by decide +kernel) rfl, aTs_mem 58 (by decide +kernel) rfl, by decide, by decide, by decide +kernel, by decide, by decide⟩, aTs_mem 356 (by decide +kernel) rfl, by decide, _, rfl, aTs_mem 357 (by decide +kernel) rfl⟩
abbrev mX8_init : aM := (yX8_init, cX8_init, 1, none)
theorem iX8_init : aIm mX8_init 0 := ⟨⟨aTs_mem 238 (by decide +kernel) rfl, aTs_mem 66 (by decide +kernel) rfl, by decide, by decide, by decide +kernel, by decide, by decide⟩, aTs_mem 237 (by decide +kernel) rfl, by decide, rfl, rfl⟩
abbrev mX8_clear : aM := (yX8_clear, cX8_clear, 1, none)
theorem vX8_clear : aVm mX8_clear 0 9 := ⟨⟨aTs_mem 552 (by decide +kernel) rfl, aTs_mem 66 (by decide +kernel) rfl, by decide, by decide, by decide +kernel, by decide, by decide⟩, aTs_mem 550 (by decide +kernel) rfl, by decide, _, rfl, aTs_mem 551 (by decide +kernel) rfl⟩
abbrev mX8_at : aM := (yX8_at, cX8_at, 2, some (.object "MadeMended$Piece"))
theorem vX8_at : aVm mX8_at 1 9 := ⟨⟨aTs_mem 664 (by decide +kernel) rfl, aTs_mem 66 (by decide +kernel) rfl, by decide, by decide, by decide +kernel, by decide, by decide⟩, aTs_mem 662 (by decide +kernel) rfl, by decide, _, rfl, aTs_mem 663 (by decide +kernel) rfl⟩
abbrev mX8_open : aM := (yX8_open, cX8_open, 7, none)
theorem vX8_open : aVm mX8_open 5 9 := ⟨⟨aTs_mem 573 (by decide +kernel) rfl, aTs_mem 66 (by decide +kernel) rfl, by decide, by decide, by decide +kernel, by decide, by decide⟩, aTs_mem 571 (by decide +kernel) rfl, by decide, _, rfl, aTs_mem 572 (by decide +kernel) rfl⟩
abbrev mX8_putMade : aM := (yX8_putMade, cX8_putMade, 5, none)
theorem vX8_putMade : aVm mX8_putMade 3 9 := ⟨⟨aTs_mem 626 (by decide +kernel) rfl, aTs_mem 66 (by decide +kernel) rfl, by decide, by decide, by decide +kernel, by decide, by decide⟩, aTs_mem 624 (by decide +kernel) rfl, by decide, _, rfl, aTs_mem 625 (by decide +kernel) rfl⟩
abbrev mX8_madeByte : aM := (yX8_madeByte, cX8_madeByte, 3, some .int)
theorem vX8_madeByte : aVm mX8_madeByte 2 9 := ⟨⟨aTs_mem 655 (by decide +kernel) rfl, aTs_mem 66 (by decide +kernel) rfl, by decide, by decide, by decide +kernel, by decide, by decide⟩, aTs_mem 653 (by decide +kernel) rfl, by decide, _, rfl, aTs_mem 654 (by decide +kernel) rfl⟩
abbrev mX8_shownByte : aM := (yX8_shownByte, cX8_shownByte, 3, some .int)
theorem vX8_shownByte : aVm mX8_shownByte 2 9 := ⟨⟨aTs_mem 711 (by decide +kernel) rfl, aTs_mem 66 (by decide +kernel) rfl, by decide, by decide, by decide +kernel, by decide, by decide⟩, aTs_mem 709 (by decide +kernel) rfl, by decide, _, rfl, aTs_mem 710 (by decide +kernel) rfl⟩
abbrev mX8_madeIs : aM := (yX8_madeIs, cX8_madeIs, 5, some .boolean)
theorem vX8_madeIs : aVm mX8_madeIs 2 9 := ⟨⟨aTs_mem 651 (by decide +kernel) rfl, aTs_mem 66 (by decide +kernel) rfl, by decide, by decide, by decide +kernel, by decide, by decide⟩, aTs_mem 649 (by decide +kernel) rfl, by decide, _, rfl, aTs_mem 650 (by decide +kernel) rfl⟩
abbrev mX8_copyOfMade : aM := (yX8_copyOfMade, cX8_copyOfMade, 4, some (.array .int))
theorem vX8_copyOfMade : aVm mX8_copyOfMade 1 9 := ⟨⟨aTs_mem 724 (by decide +kernel) rfl, aTs_mem 66 (by decide +kernel) rfl, by decide, by decide, by decide +kernel, by decide, by decide⟩, aTs_mem 722 (by decide +kernel) rfl, by decide, _, rfl, aTs_mem 723 (by decide +kernel) rfl⟩
abbrev mX8_isClash : aM := (yX8_isClash, cX8_isClash, 2, some .boolean)
theorem vX8_isClash : aVm mX8_isClash 1 9 := ⟨⟨aTs_mem 703 (by decide +kernel) rfl, aTs_mem 66 (by decide +kernel) rfl, by decide, by decide, by decide +kernel, by decide, by decide⟩, aTs_mem 701 (by decide +kernel) rfl, by decide, _, rfl, aTs_mem 702 (by decide +kernel) rfl⟩
abbrev mX8_countClashes : aM := (yX8_countClashes, cX8_countClashes, 3, some .int)
theorem vX8_countClashes : aVm mX8_countClashes 0 9 := ⟨⟨aTs_mem 776 (by decide +kernel) rfl, aTs_mem 66 (by decide +kernel) rfl, by decide, by decide, by decide +kernel, by decide, by decide⟩, aTs_mem 774 (by decide +kernel) rfl, by decide, _, rfl, aTs_mem 775 (by decide +kernel) rfl⟩
abbrev mX8_shownBefore : aM := (yX8_shownBefore, cX8_shownBefore, 4, some .int)
theorem vX8_shownBefore : aVm mX8_shownBefore 1 9 := ⟨⟨aTs_mem 789 (by decide +kernel) rfl, aTs_mem 66 (by decide +kernel) rfl, by decide, by decide, by decide +kernel, by decide, by decide⟩, aTs_mem 787 (by decide +kernel) rfl, by decide, _, rfl, aTs_mem 788 (by decide +kernel) rfl⟩
abbrev mX8_showing : aM := (yX8_showing, cX8_showing, 5, some .int)
theorem vX8_showing : aVm mX8_showing 1 9 := ⟨⟨aTs_mem 785 (by decide +kernel) rfl, aTs_mem 66 (by decide +kernel) rfl, by decide, by decide, by decide +kernel, by decide, by decide⟩, aTs_mem 783 (by decide +kernel) rfl, by decide, _, rfl, aTs_mem 784 (by decide +kernel) rfl⟩
abbrev mX8_takeHands : aM := (yX8_takeHands, cX8_takeHands, 7, some .int)
theorem vX8_takeHands : aVm mX8_takeHands 1 9 := ⟨⟨aTs_mem 639 (by decide +kernel) rfl, aTs_mem 66 (by decide +kernel) rfl, by decide, by decide, by decide +kernel, by decide, by decide⟩, aTs_mem 637 (by decide +kernel) rfl, by decide, _, rfl, aTs_mem 638 (by decide +kernel) rfl⟩
abbrev mX8_find : aM := (yX8_find, cX8_find, 5, some .int)
theorem vX8_find : aVm mX8_find 2 9 := ⟨⟨aTs_mem 643 (by decide +kernel) rfl, aTs_mem 66 (by decide +kernel) rfl, by decide, by decide, by decide +kernel, by decide, by decide⟩, aTs_mem 642 (by decide +kernel) rfl, by decide, _, rfl, aTs_mem 18 (by decide +kernel) rfl⟩
abbrev mX8_countUnlike : aM := (yX8_countUnlike, cX8_countUnlike, 5, some .int)
theorem vX8_countUnlike : aVm mX8_countUnlike 1 9 := ⟨⟨aTs_mem 764 (by decide +kernel) rfl, aTs_mem 66 (by decide +kernel) rfl, by decide, by decide, by decide +kernel, by decide, by decide⟩, aTs_mem 762 (by decide +kernel) rfl, by decide, _, rfl, aTs_mem 763 (by decide +kernel) rfl⟩
abbrev mX8_showsLike : aM := (yX8_showsLike, cX8_showsLike, 7, some .boolean)
theorem vX8_showsLike : aVm mX8_showsLike 3 9 := ⟨⟨aTs_mem 770 (by decide +kernel) rfl, aTs_mem 66 (by decide +kernel) rfl, by decide, by decide, by decide +kernel, by decide, by decide⟩, aTs_mem 769 (by decide +kernel) rfl, by decide, _, rfl, aTs_mem 21 (by decide +kernel) rfl⟩
abbrev mX9_init : aM := (yX9_init, cX9_init, 5, none)
theorem iX9_init : aIm mX9_init 4 := ⟨⟨aTs_mem 111 (by decide +kernel) rfl, aTs_mem 60 (by decide +kernel) rfl, by decide, by decide, by decide +kernel, by decide, by decide⟩, aTs_mem 110 (by decide +kernel) rfl, by decide, rfl, rfl⟩
abbrev mX9_isWithin : aM := (yX9_isWithin, cX9_isWithin, 4, some .boolean)
theorem vX9_isWithin : aVm mX9_isWithin 1 10 := ⟨⟨aTs_mem 493 (by decide +kernel) rfl, aTs_mem 60 (by decide +kernel) rfl, by decide, by decide, by decide +kernel, by decide, by decide⟩, aTs_mem 491 (by decide +kernel) rfl, by decide, _, rfl, aTs_mem 492 (by decide +kernel) rfl⟩
abbrev mX10_init : aM := (yX10_init, cX10_init, 3, none)
theorem iX10_init : aIm mX10_init 0 := ⟨⟨aTs_mem 82 (by decide +kernel) rfl, aTs_mem 57 (by decide +kernel) rfl, by decide, by decide, by decide +kernel, by decide, by decide⟩, aTs_mem 81 (by decide +kernel) rfl, by decide, rfl, rfl⟩
abbrev mX10_feed : aM := (yX10_feed, cX10_feed, 6, some .int)
theorem vX10_feed : aVm mX10_feed 5 11 := ⟨⟨aTs_mem 326 (by decide +kernel) rfl, aTs_mem 57 (by decide +kernel) rfl, by decide, by decide, by decide +kernel, by decide, by decide⟩, aTs_mem 324 (by decide +kernel) rfl, by decide, _, rfl, aTs_mem 325 (by decide +kernel) rfl⟩
abbrev mX10_end : aM := (yX10_end, cX10_end, 2, some .int)
theorem vX10_end : aVm mX10_end 1 11 := ⟨⟨aTs_mem 334 (by decide +kernel) rfl, aTs_mem 57 (by decide +kernel) rfl, by decide, by decide, by decide +kernel, by decide, by decide⟩, aTs_mem 332 (by decide +kernel) rfl, by decide, _, rfl, aTs_mem 333 (by decide +kernel) rfl⟩
abbrev mX10_thing : aM := (yX10_thing, cX10_thing, 5, some .int)
theorem vX10_thing : aVm mX10_thing 2 11 := ⟨⟨aTs_mem 338 (by decide +kernel) rfl, aTs_mem 57 (by decide +kernel) rfl, by decide, by decide, by decide +kernel, by decide, by decide⟩, aTs_mem 336 (by decide +kernel) rfl, by decide, _, rfl, aTs_mem 337 (by decide +kernel) rfl⟩
abbrev mX10_number : aM := (yX10_number, cX10_number, 5, some .boolean)
theorem vX10_number : aVm mX10_number 3 11 := ⟨⟨aTs_mem 426 (by decide +kernel) rfl, aTs_mem 57 (by decide +kernel) rfl, by decide, by decide, by decide +kernel, by decide, by decide⟩, aTs_mem 424 (by decide +kernel) rfl, by decide, _, rfl, aTs_mem 425 (by decide +kernel) rfl⟩
abbrev mX10_name : aM := (yX10_name, cX10_name, 3, some .boolean)
theorem vX10_name : aVm mX10_name 1 11 := ⟨⟨aTs_mem 434 (by decide +kernel) rfl, aTs_mem 57 (by decide +kernel) rfl, by decide, by decide, by decide +kernel, by decide, by decide⟩, aTs_mem 432 (by decide +kernel) rfl, by decide, _, rfl, aTs_mem 433 (by decide +kernel) rfl⟩
abbrev mX10_move : aM := (yX10_move, cX10_move, 4, some .boolean)
theorem vX10_move : aVm mX10_move 2 11 := ⟨⟨aTs_mem 438 (by decide +kernel) rfl, aTs_mem 57 (by decide +kernel) rfl, by decide, by decide, by decide +kernel, by decide, by decide⟩, aTs_mem 436 (by decide +kernel) rfl, by decide, _, rfl, aTs_mem 437 (by decide +kernel) rfl⟩
abbrev mX10_drop : aM := (yX10_drop, cX10_drop, 3, some .int)
theorem vX10_drop : aVm mX10_drop 1 11 := ⟨⟨aTs_mem 485 (by decide +kernel) rfl, aTs_mem 57 (by decide +kernel) rfl, by decide, by decide, by decide +kernel, by decide, by decide⟩, aTs_mem 483 (by decide +kernel) rfl, by decide, _, rfl, aTs_mem 484 (by decide +kernel) rfl⟩
abbrev mX10_rule : aM := (yX10_rule, cX10_rule, 3, some .int)
theorem vX10_rule : aVm mX10_rule 1 11 := ⟨⟨aTs_mem 497 (by decide +kernel) rfl, aTs_mem 57 (by decide +kernel) rfl, by decide, by decide, by decide +kernel, by decide, by decide⟩, aTs_mem 495 (by decide +kernel) rfl, by decide, _, rfl, aTs_mem 496 (by decide +kernel) rfl⟩
abbrev mX10_fault : aM := (yX10_fault, cX10_fault, 2, some .int)
theorem vX10_fault : aVm mX10_fault 1 11 := ⟨⟨aTs_mem 540 (by decide +kernel) rfl, aTs_mem 57 (by decide +kernel) rfl, by decide, by decide, by decide +kernel, by decide, by decide⟩, aTs_mem 538 (by decide +kernel) rfl, by decide, _, rfl, aTs_mem 539 (by decide +kernel) rfl⟩
abbrev mX10_make : aM := (yX10_make, cX10_make, 1, some .int)
theorem vX10_make : aVm mX10_make 0 11 := ⟨⟨aTs_mem 544 (by decide +kernel) rfl, aTs_mem 57 (by decide +kernel) rfl, by decide, by decide, by decide +kernel, by decide, by decide⟩, aTs_mem 542 (by decide +kernel) rfl, by decide, _, rfl, aTs_mem 543 (by decide +kernel) rfl⟩
abbrev mX10_piece : aM := (yX10_piece, cX10_piece, 4, some .int)
theorem vX10_piece : aVm mX10_piece 2 11 := ⟨⟨aTs_mem 694 (by decide +kernel) rfl, aTs_mem 57 (by decide +kernel) rfl, by decide, by decide, by decide +kernel, by decide, by decide⟩, aTs_mem 692 (by decide +kernel) rfl, by decide, _, rfl, aTs_mem 693 (by decide +kernel) rfl⟩
abbrev mX10_byteOf : aM := (yX10_byteOf, cX10_byteOf, 5, some .int)
theorem vX10_byteOf : aVm mX10_byteOf 3 11 := ⟨⟨aTs_mem 707 (by decide +kernel) rfl, aTs_mem 57 (by decide +kernel) rfl, by decide, by decide, by decide +kernel, by decide, by decide⟩, aTs_mem 705 (by decide +kernel) rfl, by decide, _, rfl, aTs_mem 706 (by decide +kernel) rfl⟩
abbrev mX10_hand : aM := (yX10_hand, cX10_hand, 4, some .boolean)
theorem vX10_hand : aVm mX10_hand 1 11 := ⟨⟨aTs_mem 717 (by decide +kernel) rfl, aTs_mem 57 (by decide +kernel) rfl, by decide, by decide, by decide +kernel, by decide, by decide⟩, aTs_mem 715 (by decide +kernel) rfl, by decide, _, rfl, aTs_mem 716 (by decide +kernel) rfl⟩
abbrev mX10_take : aM := (yX10_take, cX10_take, 4, some .boolean)
theorem vX10_take : aVm mX10_take 2 11 := ⟨⟨aTs_mem 745 (by decide +kernel) rfl, aTs_mem 57 (by decide +kernel) rfl, by decide, by decide, by decide +kernel, by decide, by decide⟩, aTs_mem 743 (by decide +kernel) rfl, by decide, _, rfl, aTs_mem 744 (by decide +kernel) rfl⟩
abbrev mX10_back : aM := (yX10_back, cX10_back, 4, some .int)
theorem vX10_back : aVm mX10_back 1 11 := ⟨⟨aTs_mem 749 (by decide +kernel) rfl, aTs_mem 57 (by decide +kernel) rfl, by decide, by decide, by decide +kernel, by decide, by decide⟩, aTs_mem 747 (by decide +kernel) rfl, by decide, _, rfl, aTs_mem 748 (by decide +kernel) rfl⟩
abbrev mX10_touch : aM := (yX10_touch, cX10_touch, 7, some .int)
theorem vX10_touch : aVm mX10_touch 4 11 := ⟨⟨aTs_mem 760 (by decide +kernel) rfl, aTs_mem 57 (by decide +kernel) rfl, by decide, by decide, by decide +kernel, by decide, by decide⟩, aTs_mem 758 (by decide +kernel) rfl, by decide, _, rfl, aTs_mem 759 (by decide +kernel) rfl⟩
abbrev mX10_text : aM := (yX10_text, cX10_text, 4, some .int)
theorem vX10_text : aVm mX10_text 1 11 := ⟨⟨aTs_mem 781 (by decide +kernel) rfl, aTs_mem 57 (by decide +kernel) rfl, by decide, by decide, by decide +kernel, by decide, by decide⟩, aTs_mem 779 (by decide +kernel) rfl, by decide, _, rfl, aTs_mem 780 (by decide +kernel) rfl⟩
abbrev mX10_maker : aM := (yX10_maker, cX10_maker, 2, some .int)
theorem vX10_maker : aVm mX10_maker 1 11 := ⟨⟨aTs_mem 793 (by decide +kernel) rfl, aTs_mem 57 (by decide +kernel) rfl, by decide, by decide, by decide +kernel, by decide, by decide⟩, aTs_mem 791 (by decide +kernel) rfl, by decide, _, rfl, aTs_mem 792 (by decide +kernel) rfl⟩
abbrev mX10_lone : aM := (yX10_lone, cX10_lone, 5, some .int)
theorem vX10_lone : aVm mX10_lone 3 11 := ⟨⟨aTs_mem 797 (by decide +kernel) rfl, aTs_mem 57 (by decide +kernel) rfl, by decide, by decide, by decide +kernel, by decide, by decide⟩, aTs_mem 795 (by decide +kernel) rfl, by decide, _, rfl, aTs_mem 796 (by decide +kernel) rfl⟩
abbrev mX10_drops : aM := (yX10_drops, cX10_drops, 2, some .boolean)
theorem vX10_drops : aVm mX10_drops 1 11 := ⟨⟨aTs_mem 806 (by decide +kernel) rfl, aTs_mem 57 (by decide +kernel) rfl, by decide, by decide, by decide +kernel, by decide, by decide⟩, aTs_mem 804 (by decide +kernel) rfl, by decide, _, rfl, aTs_mem 805 (by decide +kernel) rfl⟩
abbrev mX10_thingOf : aM := (yX10_thingOf, cX10_thingOf, 4, some .int)
theorem vX10_thingOf : aVm mX10_thingOf 2 11 := ⟨⟨aTs_mem 814 (by decide +kernel) rfl, aTs_mem 57 (by decide +kernel) rfl, by decide, by decide, by decide +kernel, by decide, by decide⟩, aTs_mem 812 (by decide +kernel) rfl, by decide, _, rfl, aTs_mem 813 (by decide +kernel) rfl⟩
abbrev mX10_about : aM := (yX10_about, cX10_about, 2, some .int)
theorem vX10_about : aVm mX10_about 1 11 := ⟨⟨aTs_mem 819 (by decide +kernel) rfl, aTs_mem 57 (by decide +kernel) rfl, by decide, by decide, by decide +kernel, by decide, by decide⟩, aTs_mem 817 (by decide +kernel) rfl, by decide, _, rfl, aTs_mem 818 (by decide +kernel) rfl⟩
abbrev mX10_fillSpareWith : aM := (yX10_fillSpareWith, cX10_fillSpareWith, 5, some .boolean)
theorem vX10_fillSpareWith : aVm mX10_fillSpareWith 3 11 := ⟨⟨aTs_mem 756 (by decide +kernel) rfl, aTs_mem 57 (by decide +kernel) rfl, by decide, by decide, by decide +kernel, by decide, by decide⟩, aTs_mem 755 (by decide +kernel) rfl, by decide, _, rfl, aTs_mem 20 (by decide +kernel) rfl⟩
abbrev mX10_turnToSpare : aM := (yX10_turnToSpare, cX10_turnToSpare, 2, some .int)
theorem vX10_turnToSpare : aVm mX10_turnToSpare 0 11 := ⟨⟨aTs_mem 635 (by decide +kernel) rfl, aTs_mem 57 (by decide +kernel) rfl, by decide, by decide, by decide +kernel, by decide, by decide⟩, aTs_mem 634 (by decide +kernel) rfl, by decide, _, rfl, aTs_mem 17 (by decide +kernel) rfl⟩
abbrev mX10_isKind : aM := (yX10_isKind, cX10_isKind, 1, some .boolean)
theorem sX10_isKind : aSm mX10_isKind 1 := ⟨⟨aTs_mem 349 (by decide +kernel) rfl, aTs_mem 57 (by decide +kernel) rfl, by decide, by decide, by decide +kernel, by decide, by decide⟩, aTs_mem 348 (by decide +kernel) rfl, by decide⟩
abbrev mX10_canBeNumber : aM := (yX10_canBeNumber, cX10_canBeNumber, 2, some .boolean)
theorem sX10_canBeNumber : aSm mX10_canBeNumber 2 := ⟨⟨aTs_mem 429 (by decide +kernel) rfl, aTs_mem 57 (by decide +kernel) rfl, by decide, by decide, by decide +kernel, by decide, by decide⟩, aTs_mem 428 (by decide +kernel) rfl, by decide⟩
abbrev mX10_elementOf : aM := (yX10_elementOf, cX10_elementOf, 2, some .int)
theorem sX10_elementOf : aSm mX10_elementOf 2 := ⟨⟨aTs_mem 516 (by decide +kernel) rfl, aTs_mem 57 (by decide +kernel) rfl, by decide, by decide, by decide +kernel, by decide, by decide⟩, aTs_mem 515 (by decide +kernel) rfl, by decide⟩
abbrev mX10_valueOf : aM := (yX10_valueOf, cX10_valueOf, 3, some .int)
theorem sX10_valueOf : aSm mX10_valueOf 1 := ⟨⟨aTs_mem 752 (by decide +kernel) rfl, aTs_mem 57 (by decide +kernel) rfl, by decide, by decide, by decide +kernel, by decide, by decide⟩, aTs_mem 751 (by decide +kernel) rfl, by decide⟩
abbrev mX11_init : aM := (yX11_init, cX11_init, 2, none)
theorem iX11_init : aIm mX11_init 0 := ⟨⟨aTs_mem 825 (by decide +kernel) rfl, aTs_mem 69 (by decide +kernel) rfl, by decide, by decide, by decide +kernel, by decide, by decide⟩, aTs_mem 824 (by decide +kernel) rfl, by decide, rfl, rfl⟩
abbrev mX11_isIn : aM := (yX11_isIn, cX11_isIn, 3, some .boolean)
theorem sX11_isIn : aSm mX11_isIn 3 := ⟨⟨aTs_mem 1000 (by decide +kernel) rfl, aTs_mem 69 (by decide +kernel) rfl, by decide, by decide, by decide +kernel, by decide, by decide⟩, aTs_mem 999 (by decide +kernel) rfl, by decide⟩
abbrev mX11_isThing : aM := (yX11_isThing, cX11_isThing, 2, some .boolean)
theorem vX11_isThing : aVm mX11_isThing 1 12 := ⟨⟨aTs_mem 1012 (by decide +kernel) rfl, aTs_mem 69 (by decide +kernel) rfl, by decide, by decide, by decide +kernel, by decide, by decide⟩, aTs_mem 1011 (by decide +kernel) rfl, by decide, _, rfl, aTs_mem 24 (by decide +kernel) rfl⟩
abbrev mX11_four : aM := (yX11_four, cX11_four, 3, none)
theorem vX11_four : aVm mX11_four 1 12 := ⟨⟨aTs_mem 993 (by decide +kernel) rfl, aTs_mem 69 (by decide +kernel) rfl, by decide, by decide, by decide +kernel, by decide, by decide⟩, aTs_mem 992 (by decide +kernel) rfl, by decide, _, rfl, aTs_mem 22 (by decide +kernel) rfl⟩
abbrev mX11_feed : aM := (yX11_feed, cX11_feed, 6, some .int)
theorem vX11_feed : aVm mX11_feed 5 12 := ⟨⟨aTs_mem 989 (by decide +kernel) rfl, aTs_mem 69 (by decide +kernel) rfl, by decide, by decide, by decide +kernel, by decide, by decide⟩, aTs_mem 987 (by decide +kernel) rfl, by decide, _, rfl, aTs_mem 988 (by decide +kernel) rfl⟩
abbrev mX11_end : aM := (yX11_end, cX11_end, 2, some .int)
theorem vX11_end : aVm mX11_end 1 12 := ⟨⟨aTs_mem 997 (by decide +kernel) rfl, aTs_mem 69 (by decide +kernel) rfl, by decide, by decide, by decide +kernel, by decide, by decide⟩, aTs_mem 995 (by decide +kernel) rfl, by decide, _, rfl, aTs_mem 996 (by decide +kernel) rfl⟩
abbrev mX11_isName : aM := (yX11_isName, cX11_isName, 2, some .boolean)
theorem vX11_isName : aVm mX11_isName 0 12 := ⟨⟨aTs_mem 1008 (by decide +kernel) rfl, aTs_mem 69 (by decide +kernel) rfl, by decide, by decide, by decide +kernel, by decide, by decide⟩, aTs_mem 1007 (by decide +kernel) rfl, by decide, _, rfl, aTs_mem 23 (by decide +kernel) rfl⟩
abbrev mX11_depthOf : aM := (yX11_depthOf, cX11_depthOf, 4, some .int)
theorem vX11_depthOf : aVm mX11_depthOf 1 12 := ⟨⟨aTs_mem 1016 (by decide +kernel) rfl, aTs_mem 69 (by decide +kernel) rfl, by decide, by decide, by decide +kernel, by decide, by decide⟩, aTs_mem 1015 (by decide +kernel) rfl, by decide, _, rfl, aTs_mem 25 (by decide +kernel) rfl⟩
abbrev mX11_many : aM := (yX11_many, cX11_many, 4, some .int)
theorem vX11_many : aVm mX11_many 1 12 := ⟨⟨aTs_mem 1020 (by decide +kernel) rfl, aTs_mem 69 (by decide +kernel) rfl, by decide, by decide, by decide +kernel, by decide, by decide⟩, aTs_mem 1019 (by decide +kernel) rfl, by decide, _, rfl, aTs_mem 26 (by decide +kernel) rfl⟩
abbrev mX11_takeName : aM := (yX11_takeName, cX11_takeName, 3, none)
theorem vX11_takeName : aVm mX11_takeName 1 12 := ⟨⟨aTs_mem 1024 (by decide +kernel) rfl, aTs_mem 69 (by decide +kernel) rfl, by decide, by decide, by decide +kernel, by decide, by decide⟩, aTs_mem 1023 (by decide +kernel) rfl, by decide, _, rfl, aTs_mem 27 (by decide +kernel) rfl⟩
abbrev mX11_thing : aM := (yX11_thing, cX11_thing, 5, some .int)
theorem vX11_thing : aVm mX11_thing 2 12 := ⟨⟨aTs_mem 1004 (by decide +kernel) rfl, aTs_mem 69 (by decide +kernel) rfl, by decide, by decide, by decide +kernel, by decide, by decide⟩, aTs_mem 1002 (by decide +kernel) rfl, by decide, _, rfl, aTs_mem 1003 (by decide +kernel) rfl⟩
abbrev mX11_number : aM := (yX11_number, cX11_number, 4, some .boolean)
theorem vX11_number : aVm mX11_number 3 12 := ⟨⟨aTs_mem 1028 (by decide +kernel) rfl, aTs_mem 69 (by decide +kernel) rfl, by decide, by decide, by decide +kernel, by decide, by decide⟩, aTs_mem 1026 (by decide +kernel) rfl, by decide, _, rfl, aTs_mem 1027 (by decide +kernel) rfl⟩
abbrev mX11_name : aM := (yX11_name, cX11_name, 2, some .boolean)
theorem vX11_name : aVm mX11_name 1 12 := ⟨⟨aTs_mem 1033 (by decide +kernel) rfl, aTs_mem 69 (by decide +kernel) rfl, by decide, by decide, by decide +kernel, by decide, by decide⟩, aTs_mem 1031 (by decide +kernel) rfl, by decide, _, rfl, aTs_mem 1032 (by decide +kernel) rfl⟩
abbrev mX11_move : aM := (yX11_move, cX11_move, 4, some .boolean)
theorem vX11_move : aVm mX11_move 2 12 := ⟨⟨aTs_mem 1037 (by decide +kernel) rfl, aTs_mem 69 (by decide +kernel) rfl, by decide, by decide, by decide +kernel, by decide, by decide⟩, aTs_mem 1035 (by decide +kernel) rfl, by decide, _, rfl, aTs_mem 1036 (by decide +kernel) rfl⟩
abbrev mX11_isWithin : aM := (yX11_isWithin, cX11_isWithin, 4, some .boolean)
theorem vX11_isWithin : aVm mX11_isWithin 2 12 := ⟨⟨aTs_mem 1045 (by decide +kernel) rfl, aTs_mem 69 (by decide +kernel) rfl, by decide, by decide, by decide +kernel, by decide, by decide⟩, aTs_mem 1044 (by decide +kernel) rfl, by decide, _, rfl, aTs_mem 28 (by decide +kernel) rfl⟩
abbrev mX11_drop : aM := (yX11_drop, cX11_drop, 5, some .int)
theorem vX11_drop : aVm mX11_drop 1 12 := ⟨⟨aTs_mem 1041 (by decide +kernel) rfl, aTs_mem 69 (by decide +kernel) rfl, by decide, by decide, by decide +kernel, by decide, by decide⟩, aTs_mem 1039 (by decide +kernel) rfl, by decide, _, rfl, aTs_mem 1040 (by decide +kernel) rfl⟩
abbrev mX11_see : aM := (yX11_see, cX11_see, 2, some .int)
theorem vX11_see : aVm mX11_see 1 12 := ⟨⟨aTs_mem 1061 (by decide +kernel) rfl, aTs_mem 69 (by decide +kernel) rfl, by decide, by decide, by decide +kernel, by decide, by decide⟩, aTs_mem 1060 (by decide +kernel) rfl, by decide, _, rfl, aTs_mem 31 (by decide +kernel) rfl⟩
abbrev mX11_put : aM := (yX11_put, cX11_put, 4, some .int)
theorem vX11_put : aVm mX11_put 3 12 := ⟨⟨aTs_mem 1065 (by decide +kernel) rfl, aTs_mem 69 (by decide +kernel) rfl, by decide, by decide, by decide +kernel, by decide, by decide⟩, aTs_mem 1064 (by decide +kernel) rfl, by decide, _, rfl, aTs_mem 32 (by decide +kernel) rfl⟩
abbrev mX11_sign : aM := (yX11_sign, cX11_sign, 9, some .int)
theorem vX11_sign : aVm mX11_sign 0 12 := ⟨⟨aTs_mem 1057 (by decide +kernel) rfl, aTs_mem 69 (by decide +kernel) rfl, by decide, by decide, by decide +kernel, by decide, by decide⟩, aTs_mem 1056 (by decide +kernel) rfl, by decide, _, rfl, aTs_mem 30 (by decide +kernel) rfl⟩
abbrev mX11_readRule : aM := (yX11_readRule, cX11_readRule, 3, some .int)
theorem vX11_readRule : aVm mX11_readRule 0 12 := ⟨⟨aTs_mem 1053 (by decide +kernel) rfl, aTs_mem 69 (by decide +kernel) rfl, by decide, by decide, by decide +kernel, by decide, by decide⟩, aTs_mem 1052 (by decide +kernel) rfl, by decide, _, rfl, aTs_mem 29 (by decide +kernel) rfl⟩
abbrev mX11_rule : aM := (yX11_rule, cX11_rule, 3, some .int)
theorem vX11_rule : aVm mX11_rule 1 12 := ⟨⟨aTs_mem 1049 (by decide +kernel) rfl, aTs_mem 69 (by decide +kernel) rfl, by decide, by decide, by decide +kernel, by decide, by decide⟩, aTs_mem 1047 (by decide +kernel) rfl, by decide, _, rfl, aTs_mem 1048 (by decide +kernel) rfl⟩
abbrev mX11_fault : aM := (yX11_fault, cX11_fault, 2, some .int)
theorem vX11_fault : aVm mX11_fault 1 12 := ⟨⟨aTs_mem 1069 (by decide +kernel) rfl, aTs_mem 69 (by decide +kernel) rfl, by decide, by decide, by decide +kernel, by decide, by decide⟩, aTs_mem 1067 (by decide +kernel) rfl, by decide, _, rfl, aTs_mem 1068 (by decide +kernel) rfl⟩
abbrev mX11_begin : aM := (yX11_begin, cX11_begin, 2, none)
theorem vX11_begin : aVm mX11_begin 1 12 := ⟨⟨aTs_mem 1085 (by decide +kernel) rfl, aTs_mem 69 (by decide +kernel) rfl, by decide, by decide, by decide +kernel, by decide, by decide⟩, aTs_mem 1084 (by decide +kernel) rfl, by decide, _, rfl, aTs_mem 35 (by decide +kernel) rfl⟩
abbrev mX11_write : aM := (yX11_write, cX11_write, 2, none)
theorem vX11_write : aVm mX11_write 1 12 := ⟨⟨aTs_mem 1097 (by decide +kernel) rfl, aTs_mem 69 (by decide +kernel) rfl, by decide, by decide, by decide +kernel, by decide, by decide⟩, aTs_mem 1096 (by decide +kernel) rfl, by decide, _, rfl, aTs_mem 38 (by decide +kernel) rfl⟩
abbrev mX11_writeNumber : aM := (yX11_writeNumber, cX11_writeNumber, 4, none)
theorem vX11_writeNumber : aVm mX11_writeNumber 1 12 := ⟨⟨aTs_mem 1101 (by decide +kernel) rfl, aTs_mem 69 (by decide +kernel) rfl, by decide, by decide, by decide +kernel, by decide, by decide⟩, aTs_mem 1100 (by decide +kernel) rfl, by decide, _, rfl, aTs_mem 39 (by decide +kernel) rfl⟩
abbrev mX11_makePiece : aM := (yX11_makePiece, cX11_makePiece, 6, none)
theorem vX11_makePiece : aVm mX11_makePiece 2 12 := ⟨⟨aTs_mem 1093 (by decide +kernel) rfl, aTs_mem 69 (by decide +kernel) rfl, by decide, by decide, by decide +kernel, by decide, by decide⟩, aTs_mem 1092 (by decide +kernel) rfl, by decide, _, rfl, aTs_mem 37 (by decide +kernel) rfl⟩
abbrev mX11_childAt : aM := (yX11_childAt, cX11_childAt, 4, some .int)
theorem vX11_childAt : aVm mX11_childAt 2 12 := ⟨⟨aTs_mem 1081 (by decide +kernel) rfl, aTs_mem 69 (by decide +kernel) rfl, by decide, by decide, by decide +kernel, by decide, by decide⟩, aTs_mem 1080 (by decide +kernel) rfl, by decide, _, rfl, aTs_mem 34 (by decide +kernel) rfl⟩
abbrev mX11_step : aM := (yX11_step, cX11_step, 6, none)
theorem vX11_step : aVm mX11_step 0 12 := ⟨⟨aTs_mem 1089 (by decide +kernel) rfl, aTs_mem 69 (by decide +kernel) rfl, by decide, by decide, by decide +kernel, by decide, by decide⟩, aTs_mem 1088 (by decide +kernel) rfl, by decide, _, rfl, aTs_mem 36 (by decide +kernel) rfl⟩
abbrev mX11_makeNew : aM := (yX11_makeNew, cX11_makeNew, 3, some .boolean)
theorem vX11_makeNew : aVm mX11_makeNew 0 12 := ⟨⟨aTs_mem 1077 (by decide +kernel) rfl, aTs_mem 69 (by decide +kernel) rfl, by decide, by decide, by decide +kernel, by decide, by decide⟩, aTs_mem 1076 (by decide +kernel) rfl, by decide, _, rfl, aTs_mem 33 (by decide +kernel) rfl⟩
abbrev mX11_isSame : aM := (yX11_isSame, cX11_isSame, 4, some .boolean)
theorem vX11_isSame : aVm mX11_isSame 2 12 := ⟨⟨aTs_mem 1117 (by decide +kernel) rfl, aTs_mem 69 (by decide +kernel) rfl, by decide, by decide, by decide +kernel, by decide, by decide⟩, aTs_mem 1116 (by decide +kernel) rfl, by decide, _, rfl, aTs_mem 43 (by decide +kernel) rfl⟩
abbrev mX11_sameOf : aM := (yX11_sameOf, cX11_sameOf, 5, some .int)
theorem vX11_sameOf : aVm mX11_sameOf 3 12 := ⟨⟨aTs_mem 1113 (by decide +kernel) rfl, aTs_mem 69 (by decide +kernel) rfl, by decide, by decide, by decide +kernel, by decide, by decide⟩, aTs_mem 1112 (by decide +kernel) rfl, by decide, _, rfl, aTs_mem 42 (by decide +kernel) rfl⟩
abbrev mX11_isMade : aM := (yX11_isMade, cX11_isMade, 7, some .boolean)
theorem vX11_isMade : aVm mX11_isMade 4 12 := ⟨⟨aTs_mem 1125 (by decide +kernel) rfl, aTs_mem 69 (by decide +kernel) rfl, by decide, by decide, by decide +kernel, by decide, by decide⟩, aTs_mem 1124 (by decide +kernel) rfl, by decide, _, rfl, aTs_mem 45 (by decide +kernel) rfl⟩
abbrev mX11_takeOver : aM := (yX11_takeOver, cX11_takeOver, 4, none)
theorem vX11_takeOver : aVm mX11_takeOver 2 12 := ⟨⟨aTs_mem 1121 (by decide +kernel) rfl, aTs_mem 69 (by decide +kernel) rfl, by decide, by decide, by decide +kernel, by decide, by decide⟩, aTs_mem 1120 (by decide +kernel) rfl, by decide, _, rfl, aTs_mem 44 (by decide +kernel) rfl⟩
abbrev mX11_takeAll : aM := (yX11_takeAll, cX11_takeAll, 4, some .int)
theorem vX11_takeAll : aVm mX11_takeAll 0 12 := ⟨⟨aTs_mem 1109 (by decide +kernel) rfl, aTs_mem 69 (by decide +kernel) rfl, by decide, by decide, by decide +kernel, by decide, by decide⟩, aTs_mem 1108 (by decide +kernel) rfl, by decide, _, rfl, aTs_mem 41 (by decide +kernel) rfl⟩
abbrev mX11_dropLone : aM := (yX11_dropLone, cX11_dropLone, 4, none)
theorem vX11_dropLone : aVm mX11_dropLone 1 12 := ⟨⟨aTs_mem 1133 (by decide +kernel) rfl, aTs_mem 69 (by decide +kernel) rfl, by decide, by decide, by decide +kernel, by decide, by decide⟩, aTs_mem 1132 (by decide +kernel) rfl, by decide, _, rfl, aTs_mem 47 (by decide +kernel) rfl⟩
abbrev mX11_keepLone : aM := (yX11_keepLone, cX11_keepLone, 3, none)
theorem vX11_keepLone : aVm mX11_keepLone 1 12 := ⟨⟨aTs_mem 1129 (by decide +kernel) rfl, aTs_mem 69 (by decide +kernel) rfl, by decide, by decide, by decide +kernel, by decide, by decide⟩, aTs_mem 1128 (by decide +kernel) rfl, by decide, _, rfl, aTs_mem 46 (by decide +kernel) rfl⟩
abbrev mX11_turn : aM := (yX11_turn, cX11_turn, 2, some .int)
theorem vX11_turn : aVm mX11_turn 0 12 := ⟨⟨aTs_mem 1105 (by decide +kernel) rfl, aTs_mem 69 (by decide +kernel) rfl, by decide, by decide, by decide +kernel, by decide, by decide⟩, aTs_mem 1104 (by decide +kernel) rfl, by decide, _, rfl, aTs_mem 40 (by decide +kernel) rfl⟩
abbrev mX11_copy : aM := (yX11_copy, cX11_copy, 4, none)
theorem vX11_copy : aVm mX11_copy 2 12 := ⟨⟨aTs_mem 1137 (by decide +kernel) rfl, aTs_mem 69 (by decide +kernel) rfl, by decide, by decide, by decide +kernel, by decide, by decide⟩, aTs_mem 1136 (by decide +kernel) rfl, by decide, _, rfl, aTs_mem 48 (by decide +kernel) rfl⟩
abbrev mX11_make : aM := (yX11_make, cX11_make, 1, some .int)
theorem vX11_make : aVm mX11_make 0 12 := ⟨⟨aTs_mem 1073 (by decide +kernel) rfl, aTs_mem 69 (by decide +kernel) rfl, by decide, by decide, by decide +kernel, by decide, by decide⟩, aTs_mem 1071 (by decide +kernel) rfl, by decide, _, rfl, aTs_mem 1072 (by decide +kernel) rfl⟩
abbrev mX11_isPiece : aM := (yX11_isPiece, cX11_isPiece, 2, some .boolean)
theorem vX11_isPiece : aVm mX11_isPiece 1 12 := ⟨⟨aTs_mem 1145 (by decide +kernel) rfl, aTs_mem 69 (by decide +kernel) rfl, by decide, by decide, by decide +kernel, by decide, by decide⟩, aTs_mem 1144 (by decide +kernel) rfl, by decide, _, rfl, aTs_mem 49 (by decide +kernel) rfl⟩
end
section
abbrev mX11_shownLong : aM := (yX11_shownLong, cX11_shownLong, 2, some .int)
theorem vX11_shownLong : aVm mX11_shownLong 1 12 := ⟨⟨aTs_mem 1149 (by decide +kernel) rfl, aTs_mem 69 (by decide +kernel) rfl, by decide, by decide, by decide +kernel, by decide, by decide⟩, aTs_mem 1148 (by decide +kernel) rfl, by decide, _, rfl, aTs_mem 50 (by decide +kernel) rfl⟩
abbrev mX11_shown : aM := (yX11_shown, cX11_shown, 3, some .int)
theorem vX11_shown : aVm mX11_shown 2 12 := ⟨⟨aTs_mem 1157 (by decide +kernel) rfl, aTs_mem 69 (by decide +kernel) rfl, by decide, by decide, by decide +kernel, by decide, by decide⟩, aTs_mem 1156 (by decide +kernel) rfl, by decide, _, rfl, aTs_mem 51 (by decide +kernel) rfl⟩
abbrev mX11_piece : aM := (yX11_piece, cX11_piece, 3, some .int)
theorem vX11_piece : aVm mX11_piece 2 12 := ⟨⟨aTs_mem 1141 (by decide +kernel) rfl, aTs_mem 69 (by decide +kernel) rfl, by decide, by decide, by decide +kernel, by decide, by decide⟩, aTs_mem 1139 (by decide +kernel) rfl, by decide, _, rfl, aTs_mem 1140 (by decide +kernel) rfl⟩
abbrev mX11_byteOf : aM := (yX11_byteOf, cX11_byteOf, 4, some .int)
theorem vX11_byteOf : aVm mX11_byteOf 3 12 := ⟨⟨aTs_mem 1153 (by decide +kernel) rfl, aTs_mem 69 (by decide +kernel) rfl, by decide, by decide, by decide +kernel, by decide, by decide⟩, aTs_mem 1151 (by decide +kernel) rfl, by decide, _, rfl, aTs_mem 1152 (by decide +kernel) rfl⟩
abbrev mX11_setBase : aM := (yX11_setBase, cX11_setBase, 3, none)
theorem vX11_setBase : aVm mX11_setBase 1 12 := ⟨⟨aTs_mem 1165 (by decide +kernel) rfl, aTs_mem 69 (by decide +kernel) rfl, by decide, by decide, by decide +kernel, by decide, by decide⟩, aTs_mem 1164 (by decide +kernel) rfl, by decide, _, rfl, aTs_mem 52 (by decide +kernel) rfl⟩
abbrev mX11_hand : aM := (yX11_hand, cX11_hand, 3, some .boolean)
theorem vX11_hand : aVm mX11_hand 1 12 := ⟨⟨aTs_mem 1161 (by decide +kernel) rfl, aTs_mem 69 (by decide +kernel) rfl, by decide, by decide, by decide +kernel, by decide, by decide⟩, aTs_mem 1159 (by decide +kernel) rfl, by decide, _, rfl, aTs_mem 1160 (by decide +kernel) rfl⟩
abbrev mX11_take : aM := (yX11_take, cX11_take, 3, some .boolean)
theorem vX11_take : aVm mX11_take 2 12 := ⟨⟨aTs_mem 1169 (by decide +kernel) rfl, aTs_mem 69 (by decide +kernel) rfl, by decide, by decide, by decide +kernel, by decide, by decide⟩, aTs_mem 1167 (by decide +kernel) rfl, by decide, _, rfl, aTs_mem 1168 (by decide +kernel) rfl⟩
abbrev mX11_numberOf : aM := (yX11_numberOf, cX11_numberOf, 6, some .int)
theorem vX11_numberOf : aVm mX11_numberOf 1 12 := ⟨⟨aTs_mem 1178 (by decide +kernel) rfl, aTs_mem 69 (by decide +kernel) rfl, by decide, by decide, by decide +kernel, by decide, by decide⟩, aTs_mem 1177 (by decide +kernel) rfl, by decide, _, rfl, aTs_mem 53 (by decide +kernel) rfl⟩
abbrev mX11_back : aM := (yX11_back, cX11_back, 6, some .int)
theorem vX11_back : aVm mX11_back 1 12 := ⟨⟨aTs_mem 1173 (by decide +kernel) rfl, aTs_mem 69 (by decide +kernel) rfl, by decide, by decide, by decide +kernel, by decide, by decide⟩, aTs_mem 1171 (by decide +kernel) rfl, by decide, _, rfl, aTs_mem 1172 (by decide +kernel) rfl⟩
abbrev mX11_touch : aM := (yX11_touch, cX11_touch, 11, some .int)
theorem vX11_touch : aVm mX11_touch 4 12 := ⟨⟨aTs_mem 1182 (by decide +kernel) rfl, aTs_mem 69 (by decide +kernel) rfl, by decide, by decide, by decide +kernel, by decide, by decide⟩, aTs_mem 1180 (by decide +kernel) rfl, by decide, _, rfl, aTs_mem 1181 (by decide +kernel) rfl⟩
abbrev mX11_isShownAlike : aM := (yX11_isShownAlike, cX11_isShownAlike, 4, some .boolean)
theorem vX11_isShownAlike : aVm mX11_isShownAlike 2 12 := ⟨⟨aTs_mem 1186 (by decide +kernel) rfl, aTs_mem 69 (by decide +kernel) rfl, by decide, by decide, by decide +kernel, by decide, by decide⟩, aTs_mem 1185 (by decide +kernel) rfl, by decide, _, rfl, aTs_mem 54 (by decide +kernel) rfl⟩
abbrev mX11_pieceAt : aM := (yX11_pieceAt, cX11_pieceAt, 4, some .int)
theorem vX11_pieceAt : aVm mX11_pieceAt 1 12 := ⟨⟨aTs_mem 1194 (by decide +kernel) rfl, aTs_mem 69 (by decide +kernel) rfl, by decide, by decide, by decide +kernel, by decide, by decide⟩, aTs_mem 1193 (by decide +kernel) rfl, by decide, _, rfl, aTs_mem 55 (by decide +kernel) rfl⟩
abbrev mX11_text : aM := (yX11_text, cX11_text, 3, some .int)
theorem vX11_text : aVm mX11_text 1 12 := ⟨⟨aTs_mem 1190 (by decide +kernel) rfl, aTs_mem 69 (by decide +kernel) rfl, by decide, by decide, by decide +kernel, by decide, by decide⟩, aTs_mem 1188 (by decide +kernel) rfl, by decide, _, rfl, aTs_mem 1189 (by decide +kernel) rfl⟩
abbrev mX11_maker : aM := (yX11_maker, cX11_maker, 2, some .int)
theorem vX11_maker : aVm mX11_maker 1 12 := ⟨⟨aTs_mem 1198 (by decide +kernel) rfl, aTs_mem 69 (by decide +kernel) rfl, by decide, by decide, by decide +kernel, by decide, by decide⟩, aTs_mem 1196 (by decide +kernel) rfl, by decide, _, rfl, aTs_mem 1197 (by decide +kernel) rfl⟩
abbrev mX11_lone : aM := (yX11_lone, cX11_lone, 4, some .int)
theorem vX11_lone : aVm mX11_lone 3 12 := ⟨⟨aTs_mem 1202 (by decide +kernel) rfl, aTs_mem 69 (by decide +kernel) rfl, by decide, by decide, by decide +kernel, by decide, by decide⟩, aTs_mem 1200 (by decide +kernel) rfl, by decide, _, rfl, aTs_mem 1201 (by decide +kernel) rfl⟩
abbrev mX11_drops : aM := (yX11_drops, cX11_drops, 2, some .boolean)
theorem vX11_drops : aVm mX11_drops 1 12 := ⟨⟨aTs_mem 1206 (by decide +kernel) rfl, aTs_mem 69 (by decide +kernel) rfl, by decide, by decide, by decide +kernel, by decide, by decide⟩, aTs_mem 1204 (by decide +kernel) rfl, by decide, _, rfl, aTs_mem 1205 (by decide +kernel) rfl⟩
abbrev mX11_thingOf : aM := (yX11_thingOf, cX11_thingOf, 3, some .int)
theorem vX11_thingOf : aVm mX11_thingOf 2 12 := ⟨⟨aTs_mem 1210 (by decide +kernel) rfl, aTs_mem 69 (by decide +kernel) rfl, by decide, by decide, by decide +kernel, by decide, by decide⟩, aTs_mem 1208 (by decide +kernel) rfl, by decide, _, rfl, aTs_mem 1209 (by decide +kernel) rfl⟩
abbrev mX11_about : aM := (yX11_about, cX11_about, 5, some .int)
theorem vX11_about : aVm mX11_about 1 12 := ⟨⟨aTs_mem 1214 (by decide +kernel) rfl, aTs_mem 69 (by decide +kernel) rfl, by decide, by decide, by decide +kernel, by decide, by decide⟩, aTs_mem 1212 (by decide +kernel) rfl, by decide, _, rfl, aTs_mem 1213 (by decide +kernel) rfl⟩
abbrev mJ9_max_7cf53 : aM := (yJ9_max_7cf53, cJ9_max_7cf53, 2, some .int)
abbrev mJ9_min_7cf53 : aM := (yJ9_min_7cf53, cJ9_min_7cf53, 2, some .int)
abbrev mJxa1e45_init_da8c8 : aM := (yJxa1e45_init_da8c8, cJxa1e45_init_da8c8, 1, none)
theorem iJxa1e45_init_da8c8 : aIm mJxa1e45_init_da8c8 0 := ⟨⟨aTs_mem 123 (by decide +kernel) rfl, aTs_mem 61 (by decide +kernel) rfl, by decide, by decide, by decide +kernel, by decide, by decide⟩, aTs_mem 122 (by decide +kernel) rfl, by decide, rfl, rfl⟩
abbrev mJxc12de_init_da8c8 : aM := (yJxc12de_init_da8c8, cJxc12de_init_da8c8, 1, none)
theorem iJxc12de_init_da8c8 : aIm mJxc12de_init_da8c8 0 := ⟨⟨aTs_mem 120 (by decide +kernel) rfl, aTs_mem 62 (by decide +kernel) rfl, by decide, by decide, by decide +kernel, by decide, by decide⟩, aTs_mem 119 (by decide +kernel) rfl, by decide, rfl, rfl⟩
abbrev mJx4a65c_init_da8c8 : aM := (yJx4a65c_init_da8c8, cJx4a65c_init_da8c8, 1, none)
theorem iJx4a65c_init_da8c8 : aIm mJx4a65c_init_da8c8 0 := ⟨⟨aTs_mem 117 (by decide +kernel) rfl, aTs_mem 63 (by decide +kernel) rfl, by decide, by decide, by decide +kernel, by decide, by decide⟩, aTs_mem 116 (by decide +kernel) rfl, by decide, rfl, rfl⟩
abbrev mJx4a65c_grow_92f84 : aM := (yJx4a65c_grow_92f84, cJx4a65c_grow_92f84, 4, some (.array (.object "java/lang/Object")))
theorem vJx4a65c_grow_92f84 : aVm mJx4a65c_grow_92f84 1 0 := ⟨⟨aTs_mem 382 (by decide +kernel) rfl, aTs_mem 63 (by decide +kernel) rfl, by decide, by decide, by decide +kernel, by decide, by decide⟩, aTs_mem 381 (by decide +kernel) rfl, by decide, _, rfl, aTs_mem 2 (by decide +kernel) rfl⟩
abbrev mJx4a65c_grow_d5877 : aM := (yJx4a65c_grow_d5877, cJx4a65c_grow_d5877, 1, some (.array (.object "java/lang/Object")))
theorem vJx4a65c_grow_d5877 : aVm mJx4a65c_grow_d5877 0 0 := ⟨⟨aTs_mem 378 (by decide +kernel) rfl, aTs_mem 63 (by decide +kernel) rfl, by decide, by decide, by decide +kernel, by decide, by decide⟩, aTs_mem 377 (by decide +kernel) rfl, by decide, _, rfl, aTs_mem 1 (by decide +kernel) rfl⟩
abbrev mJx4a65c_size_8abf5 : aM := (yJx4a65c_size_8abf5, cJx4a65c_size_8abf5, 1, some .int)
theorem vJx4a65c_size_8abf5 : aVm mJx4a65c_size_8abf5 0 0 := ⟨⟨aTs_mem 450 (by decide +kernel) rfl, aTs_mem 63 (by decide +kernel) rfl, by decide, by decide, by decide +kernel, by decide, by decide⟩, aTs_mem 448 (by decide +kernel) rfl, by decide, _, rfl, aTs_mem 449 (by decide +kernel) rfl⟩
abbrev mJx4a65c_elementData_915e3 : aM := (yJx4a65c_elementData_915e3, cJx4a65c_elementData_915e3, 2, some (.object "java/lang/Object"))
theorem vJx4a65c_elementData_915e3 : aVm mJx4a65c_elementData_915e3 1 0 := ⟨⟨aTs_mem 464 (by decide +kernel) rfl, aTs_mem 63 (by decide +kernel) rfl, by decide, by decide, by decide +kernel, by decide, by decide⟩, aTs_mem 462 (by decide +kernel) rfl, by decide, _, rfl, aTs_mem 463 (by decide +kernel) rfl⟩
abbrev mJx4a65c_get_915e3 : aM := (yJx4a65c_get_915e3, cJx4a65c_get_915e3, 2, some (.object "java/lang/Object"))
theorem vJx4a65c_get_915e3 : aVm mJx4a65c_get_915e3 1 0 := ⟨⟨aTs_mem 454 (by decide +kernel) rfl, aTs_mem 63 (by decide +kernel) rfl, by decide, by decide, by decide +kernel, by decide, by decide⟩, aTs_mem 452 (by decide +kernel) rfl, by decide, _, rfl, aTs_mem 453 (by decide +kernel) rfl⟩
abbrev mJx4a65c_add_72be8 : aM := (yJx4a65c_add_72be8, cJx4a65c_add_72be8, 4, none)
theorem vJx4a65c_add_72be8 : aVm mJx4a65c_add_72be8 3 0 := ⟨⟨aTs_mem 374 (by decide +kernel) rfl, aTs_mem 63 (by decide +kernel) rfl, by decide, by decide, by decide +kernel, by decide, by decide⟩, aTs_mem 373 (by decide +kernel) rfl, by decide, _, rfl, aTs_mem 0 (by decide +kernel) rfl⟩
abbrev mJx4a65c_add_9ea2d : aM := (yJx4a65c_add_9ea2d, cJx4a65c_add_9ea2d, 2, some .boolean)
theorem vJx4a65c_add_9ea2d : aVm mJx4a65c_add_9ea2d 1 0 := ⟨⟨aTs_mem 370 (by decide +kernel) rfl, aTs_mem 63 (by decide +kernel) rfl, by decide, by decide, by decide +kernel, by decide, by decide⟩, aTs_mem 368 (by decide +kernel) rfl, by decide, _, rfl, aTs_mem 369 (by decide +kernel) rfl⟩
abbrev mJx4a65c_add_7a177 : aM := (yJx4a65c_add_7a177, cJx4a65c_add_7a177, 5, none)
theorem vJx4a65c_add_7a177 : aVm mJx4a65c_add_7a177 2 0 := ⟨⟨aTs_mem 477 (by decide +kernel) rfl, aTs_mem 63 (by decide +kernel) rfl, by decide, by decide, by decide +kernel, by decide, by decide⟩, aTs_mem 475 (by decide +kernel) rfl, by decide, _, rfl, aTs_mem 476 (by decide +kernel) rfl⟩
abbrev mJx4a65c_remove_915e3 : aM := (yJx4a65c_remove_915e3, cJx4a65c_remove_915e3, 4, some (.object "java/lang/Object"))
theorem vJx4a65c_remove_915e3 : aVm mJx4a65c_remove_915e3 1 0 := ⟨⟨aTs_mem 468 (by decide +kernel) rfl, aTs_mem 63 (by decide +kernel) rfl, by decide, by decide, by decide +kernel, by decide, by decide⟩, aTs_mem 466 (by decide +kernel) rfl, by decide, _, rfl, aTs_mem 467 (by decide +kernel) rfl⟩
abbrev mJx4a65c_fastRemove_b59b0 : aM := (yJx4a65c_fastRemove_b59b0, cJx4a65c_fastRemove_b59b0, 4, none)
theorem vJx4a65c_fastRemove_b59b0 : aVm mJx4a65c_fastRemove_b59b0 2 0 := ⟨⟨aTs_mem 472 (by decide +kernel) rfl, aTs_mem 63 (by decide +kernel) rfl, by decide, by decide, by decide +kernel, by decide, by decide⟩, aTs_mem 471 (by decide +kernel) rfl, by decide, _, rfl, aTs_mem 3 (by decide +kernel) rfl⟩
abbrev mJx4a65c_rangeCheckForAdd_d00df : aM := (yJx4a65c_rangeCheckForAdd_d00df, cJx4a65c_rangeCheckForAdd_d00df, 2, none)
theorem vJx4a65c_rangeCheckForAdd_d00df : aVm mJx4a65c_rangeCheckForAdd_d00df 1 0 := ⟨⟨aTs_mem 481 (by decide +kernel) rfl, aTs_mem 63 (by decide +kernel) rfl, by decide, by decide, by decide +kernel, by decide, by decide⟩, aTs_mem 480 (by decide +kernel) rfl, by decide, _, rfl, aTs_mem 4 (by decide +kernel) rfl⟩
abbrev mJ7_copyOf_1904c : aM := (yJ7_copyOf_1904c, cJ7_copyOf_1904c, 2, some (.array (.object "java/lang/Object")))
theorem sJ7_copyOf_1904c : aSm mJ7_copyOf_1904c 2 := ⟨⟨aTs_mem 395 (by decide +kernel) rfl, aTs_mem 72 (by decide +kernel) rfl, by decide, by decide, by decide +kernel, by decide, by decide⟩, aTs_mem 394 (by decide +kernel) rfl, by decide⟩
abbrev mJ7_copyOf_6403c : aM := (yJ7_copyOf_6403c, cJ7_copyOf_6403c, 4, some (.array (.object "java/lang/Object")))
theorem sJ7_copyOf_6403c : aSm mJ7_copyOf_6403c 3 := ⟨⟨aTs_mem 415 (by decide +kernel) rfl, aTs_mem 72 (by decide +kernel) rfl, by decide, by decide, by decide +kernel, by decide, by decide⟩, aTs_mem 414 (by decide +kernel) rfl, by decide⟩
abbrev mJ15_checkIndex_7cf53 : aM := (yJ15_checkIndex_7cf53, cJ15_checkIndex_7cf53, 2, some .int)
theorem sJ15_checkIndex_7cf53 : aSm mJ15_checkIndex_7cf53 2 := ⟨⟨aTs_mem 457 (by decide +kernel) rfl, aTs_mem 73 (by decide +kernel) rfl, by decide, by decide, by decide +kernel, by decide, by decide⟩, aTs_mem 456 (by decide +kernel) rfl, by decide⟩
abbrev mJ8_newLength_cabcc : aM := (yJ8_newLength_cabcc, cJ8_newLength_cabcc, 4, some .int)
theorem sJ8_newLength_cabcc : aSm mJ8_newLength_cabcc 3 := ⟨⟨aTs_mem 385 (by decide +kernel) rfl, aTs_mem 71 (by decide +kernel) rfl, by decide, by decide, by decide +kernel, by decide, by decide⟩, aTs_mem 384 (by decide +kernel) rfl, by decide⟩
abbrev mJ8_hugeLength_7cf53 : aM := (yJ8_hugeLength_7cf53, cJ8_hugeLength_7cf53, 3, some .int)
theorem sJ8_hugeLength_7cf53 : aSm mJ8_hugeLength_7cf53 2 := ⟨⟨aTs_mem 392 (by decide +kernel) rfl, aTs_mem 71 (by decide +kernel) rfl, by decide, by decide, by decide +kernel, by decide, by decide⟩, aTs_mem 391 (by decide +kernel) rfl, by decide⟩
abbrev mJ3_checkIndex_8e157 : aM := (yJ3_checkIndex_8e157, cJ3_checkIndex_8e157, 3, some .int)
theorem sJ3_checkIndex_8e157 : aSm mJ3_checkIndex_8e157 3 := ⟨⟨aTs_mem 460 (by decide +kernel) rfl, aTs_mem 74 (by decide +kernel) rfl, by decide, by decide, by decide +kernel, by decide, by decide⟩, aTs_mem 459 (by decide +kernel) rfl, by decide⟩
theorem kL_9 : Cond.methodLink RL 9 yX10_init ∈ aTs := aTs_mem 80 (by decide +kernel) rfl
theorem kX10_1 : Cond.methodLink RX10 1 objectInit ∈ aTs := aTs_mem 83 (by decide +kernel) rfl
theorem kX7_3 : Cond.methodLink RX7 3 objectInit ∈ aTs := aTs_mem 91 (by decide +kernel) rfl
theorem kX4_3 : Cond.methodLink RX4 3 objectInit ∈ aTs := aTs_mem 106 (by decide +kernel) rfl
theorem kX4_11 : Cond.methodLink RX4 11 yX9_init ∈ aTs := aTs_mem 109 (by decide +kernel) rfl
theorem kX9_3 : Cond.methodLink RX9 3 objectInit ∈ aTs := aTs_mem 112 (by decide +kernel) rfl
theorem kX9_17 : Cond.methodLink RX9 17 yJx4a65c_init_da8c8 ∈ aTs := aTs_mem 115 (by decide +kernel) rfl
theorem kJx4a65c_1 : Cond.methodLink RJx4a65c 1 yJxc12de_init_da8c8 ∈ aTs := aTs_mem 118 (by decide +kernel) rfl
theorem kJxc12de_1 : Cond.methodLink RJxc12de 1 yJxa1e45_init_da8c8 ∈ aTs := aTs_mem 121 (by decide +kernel) rfl
theorem kJxa1e45_1 : Cond.methodLink RJxa1e45 1 objectInit ∈ aTs := aTs_mem 124 (by decide +kernel) rfl
theorem kX10_29 : Cond.methodLink RX10 29 yX6_init ∈ aTs := aTs_mem 194 (by decide +kernel) rfl
theorem kX6_3 : Cond.methodLink RX6 3 objectInit ∈ aTs := aTs_mem 197 (by decide +kernel) rfl
theorem kX6_15 : Cond.methodLink RX6 15 yJ9_min_7cf53 ∈ aTs := aTs_mem 198 (by decide +kernel) rfl
theorem kX8_3 : Cond.methodLink RX8 3 objectInit ∈ aTs := aTs_mem 239 (by decide +kernel) rfl
theorem kX10_44 : Cond.methodLink RX10 44 yX3_init ∈ aTs := aTs_mem 264 (by decide +kernel) rfl
theorem kX3_3 : Cond.methodLink RX3 3 objectInit ∈ aTs := aTs_mem 267 (by decide +kernel) rfl
theorem kX2_3 : Cond.methodLink RX2 3 objectInit ∈ aTs := aTs_mem 286 (by decide +kernel) rfl
theorem kX2_11 : Cond.methodLink RX2 11 yJx4a65c_init_da8c8 ∈ aTs := aTs_mem 288 (by decide +kernel) rfl
theorem kL_13 : Cond.methodLink RL 13 yX10_feed ∈ aTs := aTs_mem 323 (by decide +kernel) rfl
theorem kX10_66 : Cond.methodLink RX10 66 yX7_putFour ∈ aTs := aTs_mem 327 (by decide +kernel) rfl
theorem kL_18 : Cond.methodLink RL 18 yX10_end ∈ aTs := aTs_mem 331 (by decide +kernel) rfl
theorem kL_23 : Cond.methodLink RL 23 yX10_thing ∈ aTs := aTs_mem 335 (by decide +kernel) rfl
theorem kX10_74 : Cond.methodLink RX10 74 yX4_at ∈ aTs := aTs_mem 339 (by decide +kernel) rfl
theorem kX10_78 : Cond.methodLink RX10 78 yX4_freeSlot ∈ aTs := aTs_mem 343 (by decide +kernel) rfl
theorem kX10_82 : Cond.methodLink RX10 82 yX10_isKind ∈ aTs := aTs_mem 347 (by decide +kernel) rfl
theorem kX10_91 : Cond.methodLink RX10 91 yX7_isName ∈ aTs := aTs_mem 350 (by decide +kernel) rfl
theorem kX10_95 : Cond.methodLink RX10 95 yX7_cutAll ∈ aTs := aTs_mem 355 (by decide +kernel) rfl
theorem kX7_19 : Cond.methodLink RX7 19 arraycopyName ∈ aTs := aTs_mem 359 (by decide +kernel) rfl
theorem kX10_99 : Cond.methodLink RX10 99 yX9_init ∈ aTs := aTs_mem 362 (by decide +kernel) rfl
theorem kX10_102 : Cond.methodLink RX10 102 yX4_put ∈ aTs := aTs_mem 363 (by decide +kernel) rfl
theorem kX4_35 : Cond.methodLink RX4 35 yJx4a65c_add_9ea2d ∈ aTs := aTs_mem 367 (by decide +kernel) rfl
theorem kJx4a65c_131 : Cond.methodLink RJx4a65c 131 yJx4a65c_add_72be8 ∈ aTs := aTs_mem 371 (by decide +kernel) rfl
theorem kJx4a65c_129 : Cond.methodLink RJx4a65c 129 yJx4a65c_grow_d5877 ∈ aTs := aTs_mem 375 (by decide +kernel) rfl
theorem kJx4a65c_69 : Cond.methodLink RJx4a65c 69 yJx4a65c_grow_92f84 ∈ aTs := aTs_mem 379 (by decide +kernel) rfl
theorem kJx4a65c_73 : Cond.methodLink RJx4a65c 73 yJ8_newLength_cabcc ∈ aTs := aTs_mem 383 (by decide +kernel) rfl
theorem kJ8_194 : Cond.methodLink RJ8 194 yJ9_max_7cf53 ∈ aTs := aTs_mem 386 (by decide +kernel) rfl
theorem kJ8_201 : Cond.methodLink RJ8 201 yJ8_hugeLength_7cf53 ∈ aTs := aTs_mem 390 (by decide +kernel) rfl
theorem kJx4a65c_66 : Cond.methodLink RJx4a65c 66 yJ7_copyOf_1904c ∈ aTs := aTs_mem 393 (by decide +kernel) rfl
theorem kJ7_86 : Cond.methodLink RJ7 86 ⟨"java/lang/Object", "getClass", "()Ljava/lang/Class;"⟩ ∈ aTs := aTs_mem 396 (by decide +kernel) rfl
theorem kJ7_300 : Cond.methodLink RJ7 300 yJ7_copyOf_6403c ∈ aTs := aTs_mem 413 (by decide +kernel) rfl
theorem kJ7_304 : Cond.methodLink RJ7 304 yJ9_min_7cf53 ∈ aTs := aTs_mem 419 (by decide +kernel) rfl
theorem kJ7_150 : Cond.methodLink RJ7 150 arraycopyName ∈ aTs := aTs_mem 420 (by decide +kernel) rfl
theorem kJx4a65c_79 : Cond.methodLink RJx4a65c 79 yJ9_max_7cf53 ∈ aTs := aTs_mem 421 (by decide +kernel) rfl
theorem kL_28 : Cond.methodLink RL 28 yX10_number ∈ aTs := aTs_mem 423 (by decide +kernel) rfl
theorem kX10_106 : Cond.methodLink RX10 106 yX10_canBeNumber ∈ aTs := aTs_mem 427 (by decide +kernel) rfl
theorem kL_33 : Cond.methodLink RL 33 yX10_name ∈ aTs := aTs_mem 431 (by decide +kernel) rfl
theorem kL_38 : Cond.methodLink RL 38 yX10_move ∈ aTs := aTs_mem 435 (by decide +kernel) rfl
theorem kX10_117 : Cond.methodLink RX10 117 yX4_shift ∈ aTs := aTs_mem 439 (by decide +kernel) rfl
theorem kX4_52 : Cond.methodLink RX4 52 yX4_placeOf ∈ aTs := aTs_mem 443 (by decide +kernel) rfl
theorem kX4_44 : Cond.methodLink RX4 44 yJx4a65c_size_8abf5 ∈ aTs := aTs_mem 447 (by decide +kernel) rfl
theorem kX4_48 : Cond.methodLink RX4 48 yJx4a65c_get_915e3 ∈ aTs := aTs_mem 451 (by decide +kernel) rfl
theorem kJx4a65c_118 : Cond.methodLink RJx4a65c 118 yJ15_checkIndex_7cf53 ∈ aTs := aTs_mem 455 (by decide +kernel) rfl
theorem kJ15_105 : Cond.methodLink RJ15 105 yJ3_checkIndex_8e157 ∈ aTs := aTs_mem 458 (by decide +kernel) rfl
theorem kJx4a65c_123 : Cond.methodLink RJx4a65c 123 yJx4a65c_elementData_915e3 ∈ aTs := aTs_mem 461 (by decide +kernel) rfl
theorem kX4_56 : Cond.methodLink RX4 56 yJx4a65c_remove_915e3 ∈ aTs := aTs_mem 465 (by decide +kernel) rfl
theorem kJx4a65c_144 : Cond.methodLink RJx4a65c 144 yJx4a65c_fastRemove_b59b0 ∈ aTs := aTs_mem 469 (by decide +kernel) rfl
theorem kJx4a65c_112 : Cond.methodLink RJx4a65c 112 arraycopyName ∈ aTs := aTs_mem 473 (by decide +kernel) rfl
theorem kX4_59 : Cond.methodLink RX4 59 yJx4a65c_add_7a177 ∈ aTs := aTs_mem 474 (by decide +kernel) rfl
theorem kJx4a65c_135 : Cond.methodLink RJx4a65c 135 yJx4a65c_rangeCheckForAdd_d00df ∈ aTs := aTs_mem 478 (by decide +kernel) rfl
theorem kL_43 : Cond.methodLink RL 43 yX10_drop ∈ aTs := aTs_mem 482 (by decide +kernel) rfl
theorem kX10_121 : Cond.methodLink RX10 121 yX4_remove ∈ aTs := aTs_mem 486 (by decide +kernel) rfl
theorem kX4_62 : Cond.methodLink RX4 62 yX9_isWithin ∈ aTs := aTs_mem 490 (by decide +kernel) rfl
theorem kL_47 : Cond.methodLink RL 47 yX10_rule ∈ aTs := aTs_mem 494 (by decide +kernel) rfl
theorem kX10_125 : Cond.methodLink RX10 125 yX6_readItems ∈ aTs := aTs_mem 498 (by decide +kernel) rfl
theorem kX6_37 : Cond.methodLink RX6 37 yX6_readMark ∈ aTs := aTs_mem 502 (by decide +kernel) rfl
theorem kX6_56 : Cond.methodLink RX6 56 yX6_sortOfMark ∈ aTs := aTs_mem 506 (by decide +kernel) rfl
theorem kX6_62 : Cond.methodLink RX6 62 yX6_byteAt ∈ aTs := aTs_mem 510 (by decide +kernel) rfl
theorem kX6_68 : Cond.methodLink RX6 68 yX6_isIndex ∈ aTs := aTs_mem 517 (by decide +kernel) rfl
theorem kX6_48 : Cond.methodLink RX6 48 yX6_blame ∈ aTs := aTs_mem 521 (by decide +kernel) rfl
theorem kX6_59 : Cond.methodLink RX6 59 yX6_addMark ∈ aTs := aTs_mem 525 (by decide +kernel) rfl
theorem kX6_52 : Cond.methodLink RX6 52 yX6_add ∈ aTs := aTs_mem 529 (by decide +kernel) rfl
theorem kX6_41 : Cond.methodLink RX6 41 yX6_readWord ∈ aTs := aTs_mem 533 (by decide +kernel) rfl
theorem kL_51 : Cond.methodLink RL 51 yX10_fault ∈ aTs := aTs_mem 537 (by decide +kernel) rfl
theorem kL_55 : Cond.methodLink RL 55 yX10_make ∈ aTs := aTs_mem 541 (by decide +kernel) rfl
theorem kX10_137 : Cond.methodLink RX10 137 yX3_fill ∈ aTs := aTs_mem 545 (by decide +kernel) rfl
theorem kX3_27 : Cond.methodLink RX3 27 yX8_clear ∈ aTs := aTs_mem 549 (by decide +kernel) rfl
theorem kX3_38 : Cond.methodLink RX3 38 yJx4a65c_size_8abf5 ∈ aTs := aTs_mem 553 (by decide +kernel) rfl
theorem kX3_48 : Cond.methodLink RX3 48 yJx4a65c_get_915e3 ∈ aTs := aTs_mem 554 (by decide +kernel) rfl
theorem kX3_52 : Cond.methodLink RX3 52 yX3_makeUse ∈ aTs := aTs_mem 556 (by decide +kernel) rfl
theorem kX3_81 : Cond.methodLink RX3 81 yX3_makeParts ∈ aTs := aTs_mem 562 (by decide +kernel) rfl
theorem kX3_85 : Cond.methodLink RX3 85 yX3_makePiece ∈ aTs := aTs_mem 566 (by decide +kernel) rfl
theorem kX3_92 : Cond.methodLink RX3 92 yX8_open ∈ aTs := aTs_mem 570 (by decide +kernel) rfl
theorem kX8_32 : Cond.methodLink RX8 32 yX5_init ∈ aTs := aTs_mem 575 (by decide +kernel) rfl
theorem kX5_1 : Cond.methodLink RX5 1 objectInit ∈ aTs := aTs_mem 578 (by decide +kernel) rfl
theorem kX3_99 : Cond.methodLink RX3 99 yX8_putMade ∈ aTs := aTs_mem 623 (by decide +kernel) rfl
theorem kX8_61 : Cond.methodLink RX8 61 arraycopyName ∈ aTs := aTs_mem 627 (by decide +kernel) rfl
theorem kX3_106 : Cond.methodLink RX3 106 yX3_spell ∈ aTs := aTs_mem 628 (by decide +kernel) rfl
theorem kX10_145 : Cond.methodLink RX10 145 yX10_turnToSpare ∈ aTs := aTs_mem 632 (by decide +kernel) rfl
theorem kX10_224 : Cond.methodLink RX10 224 yX8_takeHands ∈ aTs := aTs_mem 636 (by decide +kernel) rfl
theorem kX8_95 : Cond.methodLink RX8 95 yX8_find ∈ aTs := aTs_mem 640 (by decide +kernel) rfl
theorem kX8_101 : Cond.methodLink RX8 101 yX5_hasMakerOf ∈ aTs := aTs_mem 644 (by decide +kernel) rfl
theorem kX8_83 : Cond.methodLink RX8 83 yX8_madeIs ∈ aTs := aTs_mem 648 (by decide +kernel) rfl
theorem kX8_71 : Cond.methodLink RX8 71 yX8_madeByte ∈ aTs := aTs_mem 652 (by decide +kernel) rfl
theorem kX10_271 : Cond.methodLink RX10 271 yX2_keepLost ∈ aTs := aTs_mem 657 (by decide +kernel) rfl
theorem kX2_34 : Cond.methodLink RX2 34 yX8_at ∈ aTs := aTs_mem 661 (by decide +kernel) rfl
theorem kX2_60 : Cond.methodLink RX2 60 yX1_init ∈ aTs := aTs_mem 667 (by decide +kernel) rfl
theorem kX1_1 : Cond.methodLink RX1 1 objectInit ∈ aTs := aTs_mem 670 (by decide +kernel) rfl
theorem kX2_63 : Cond.methodLink RX2 63 yX2_keep ∈ aTs := aTs_mem 684 (by decide +kernel) rfl
theorem kX2_18 : Cond.methodLink RX2 18 yJx4a65c_size_8abf5 ∈ aTs := aTs_mem 688 (by decide +kernel) rfl
theorem kX2_67 : Cond.methodLink RX2 67 yJx4a65c_remove_915e3 ∈ aTs := aTs_mem 689 (by decide +kernel) rfl
theorem kX2_73 : Cond.methodLink RX2 73 yJx4a65c_add_9ea2d ∈ aTs := aTs_mem 690 (by decide +kernel) rfl
theorem kL_60 : Cond.methodLink RL 60 yX10_piece ∈ aTs := aTs_mem 691 (by decide +kernel) rfl
theorem kX10_148 : Cond.methodLink RX10 148 yX8_at ∈ aTs := aTs_mem 695 (by decide +kernel) rfl
theorem kX10_168 : Cond.methodLink RX10 168 yX5_shownLength ∈ aTs := aTs_mem 696 (by decide +kernel) rfl
theorem kX10_176 : Cond.methodLink RX10 176 yX8_isClash ∈ aTs := aTs_mem 700 (by decide +kernel) rfl
theorem kL_64 : Cond.methodLink RL 64 yX10_byteOf ∈ aTs := aTs_mem 704 (by decide +kernel) rfl
theorem kX10_183 : Cond.methodLink RX10 183 yX8_shownByte ∈ aTs := aTs_mem 708 (by decide +kernel) rfl
theorem kX10_187 : Cond.methodLink RX10 187 yX8_madeByte ∈ aTs := aTs_mem 712 (by decide +kernel) rfl
theorem kX10_195 : Cond.methodLink RX10 195 yX10_elementOf ∈ aTs := aTs_mem 713 (by decide +kernel) rfl
theorem kL_69 : Cond.methodLink RL 69 yX10_hand ∈ aTs := aTs_mem 714 (by decide +kernel) rfl
theorem kX10_199 : Cond.methodLink RX10 199 yX8_madeIs ∈ aTs := aTs_mem 718 (by decide +kernel) rfl
theorem kX10_203 : Cond.methodLink RX10 203 yX8_copyOfMade ∈ aTs := aTs_mem 721 (by decide +kernel) rfl
theorem kX10_207 : Cond.methodLink RX10 207 yX0_init ∈ aTs := aTs_mem 725 (by decide +kernel) rfl
theorem kX0_1 : Cond.methodLink RX0 1 objectInit ∈ aTs := aTs_mem 728 (by decide +kernel) rfl
theorem kL_73 : Cond.methodLink RL 73 yX10_take ∈ aTs := aTs_mem 742 (by decide +kernel) rfl
theorem kL_77 : Cond.methodLink RL 77 yX10_back ∈ aTs := aTs_mem 746 (by decide +kernel) rfl
theorem kX10_213 : Cond.methodLink RX10 213 yX10_valueOf ∈ aTs := aTs_mem 750 (by decide +kernel) rfl
theorem kX10_220 : Cond.methodLink RX10 220 yX10_fillSpareWith ∈ aTs := aTs_mem 753 (by decide +kernel) rfl
theorem kL_81 : Cond.methodLink RL 81 yX10_touch ∈ aTs := aTs_mem 757 (by decide +kernel) rfl
theorem kX10_228 : Cond.methodLink RX10 228 yX8_countUnlike ∈ aTs := aTs_mem 761 (by decide +kernel) rfl
theorem kX8_104 : Cond.methodLink RX8 104 yJ9_min_7cf53 ∈ aTs := aTs_mem 765 (by decide +kernel) rfl
theorem kX8_110 : Cond.methodLink RX8 110 yJ9_max_7cf53 ∈ aTs := aTs_mem 766 (by decide +kernel) rfl
theorem kX8_113 : Cond.methodLink RX8 113 yX8_showsLike ∈ aTs := aTs_mem 767 (by decide +kernel) rfl
theorem kX8_91 : Cond.methodLink RX8 91 yX5_shownLength ∈ aTs := aTs_mem 771 (by decide +kernel) rfl
theorem kX8_117 : Cond.methodLink RX8 117 yX8_shownByte ∈ aTs := aTs_mem 772 (by decide +kernel) rfl
theorem kX10_231 : Cond.methodLink RX10 231 yX8_countClashes ∈ aTs := aTs_mem 773 (by decide +kernel) rfl
theorem kX8_87 : Cond.methodLink RX8 87 yX8_isClash ∈ aTs := aTs_mem 777 (by decide +kernel) rfl
theorem kL_86 : Cond.methodLink RL 86 yX10_text ∈ aTs := aTs_mem 778 (by decide +kernel) rfl
theorem kX10_235 : Cond.methodLink RX10 235 yX8_showing ∈ aTs := aTs_mem 782 (by decide +kernel) rfl
theorem kX10_239 : Cond.methodLink RX10 239 yX8_shownBefore ∈ aTs := aTs_mem 786 (by decide +kernel) rfl
theorem kL_90 : Cond.methodLink RL 90 yX10_maker ∈ aTs := aTs_mem 790 (by decide +kernel) rfl
theorem kL_94 : Cond.methodLink RL 94 yX10_lone ∈ aTs := aTs_mem 794 (by decide +kernel) rfl
theorem kX10_242 : Cond.methodLink RX10 242 yX2_at ∈ aTs := aTs_mem 798 (by decide +kernel) rfl
theorem kX2_22 : Cond.methodLink RX2 22 yJx4a65c_get_915e3 ∈ aTs := aTs_mem 802 (by decide +kernel) rfl
theorem kL_98 : Cond.methodLink RL 98 yX10_drops ∈ aTs := aTs_mem 803 (by decide +kernel) rfl
theorem kX10_250 : Cond.methodLink RX10 250 yX2_remove ∈ aTs := aTs_mem 807 (by decide +kernel) rfl
theorem kL_102 : Cond.methodLink RL 102 yX10_thingOf ∈ aTs := aTs_mem 811 (by decide +kernel) rfl
theorem kX10_255 : Cond.methodLink RX10 255 yX4_placeOf ∈ aTs := aTs_mem 815 (by decide +kernel) rfl
theorem kL_106 : Cond.methodLink RL 106 yX10_about ∈ aTs := aTs_mem 816 (by decide +kernel) rfl
theorem kX10_263 : Cond.methodLink RX10 263 yJx4a65c_size_8abf5 ∈ aTs := aTs_mem 820 (by decide +kernel) rfl
theorem kL_12 : Cond.methodLink RL 12 yX11_init ∈ aTs := aTs_mem 823 (by decide +kernel) rfl
theorem kX11_1 : Cond.methodLink RX11 1 objectInit ∈ aTs := aTs_mem 826 (by decide +kernel) rfl
theorem kL_17 : Cond.methodLink RL 17 yX11_feed ∈ aTs := aTs_mem 986 (by decide +kernel) rfl
theorem kX11_137 : Cond.methodLink RX11 137 yX11_four ∈ aTs := aTs_mem 990 (by decide +kernel) rfl
theorem kL_22 : Cond.methodLink RL 22 yX11_end ∈ aTs := aTs_mem 994 (by decide +kernel) rfl
theorem kX11_130 : Cond.methodLink RX11 130 yX11_isIn ∈ aTs := aTs_mem 998 (by decide +kernel) rfl
theorem kL_27 : Cond.methodLink RL 27 yX11_thing ∈ aTs := aTs_mem 1001 (by decide +kernel) rfl
theorem kX11_141 : Cond.methodLink RX11 141 yX11_isName ∈ aTs := aTs_mem 1005 (by decide +kernel) rfl
theorem kX11_145 : Cond.methodLink RX11 145 yX11_isThing ∈ aTs := aTs_mem 1009 (by decide +kernel) rfl
theorem kX11_149 : Cond.methodLink RX11 149 yX11_depthOf ∈ aTs := aTs_mem 1013 (by decide +kernel) rfl
theorem kX11_156 : Cond.methodLink RX11 156 yX11_many ∈ aTs := aTs_mem 1017 (by decide +kernel) rfl
theorem kX11_162 : Cond.methodLink RX11 162 yX11_takeName ∈ aTs := aTs_mem 1021 (by decide +kernel) rfl
theorem kL_32 : Cond.methodLink RL 32 yX11_number ∈ aTs := aTs_mem 1025 (by decide +kernel) rfl
theorem kL_37 : Cond.methodLink RL 37 yX11_name ∈ aTs := aTs_mem 1030 (by decide +kernel) rfl
theorem kL_42 : Cond.methodLink RL 42 yX11_move ∈ aTs := aTs_mem 1034 (by decide +kernel) rfl
theorem kL_46 : Cond.methodLink RL 46 yX11_drop ∈ aTs := aTs_mem 1038 (by decide +kernel) rfl
theorem kX11_166 : Cond.methodLink RX11 166 yX11_isWithin ∈ aTs := aTs_mem 1042 (by decide +kernel) rfl
theorem kL_50 : Cond.methodLink RL 50 yX11_rule ∈ aTs := aTs_mem 1046 (by decide +kernel) rfl
theorem kX11_191 : Cond.methodLink RX11 191 yX11_readRule ∈ aTs := aTs_mem 1050 (by decide +kernel) rfl
theorem kX11_187 : Cond.methodLink RX11 187 yX11_sign ∈ aTs := aTs_mem 1054 (by decide +kernel) rfl
theorem kX11_176 : Cond.methodLink RX11 176 yX11_see ∈ aTs := aTs_mem 1058 (by decide +kernel) rfl
theorem kX11_179 : Cond.methodLink RX11 179 yX11_put ∈ aTs := aTs_mem 1062 (by decide +kernel) rfl
theorem kL_54 : Cond.methodLink RL 54 yX11_fault ∈ aTs := aTs_mem 1066 (by decide +kernel) rfl
theorem kL_59 : Cond.methodLink RL 59 yX11_make ∈ aTs := aTs_mem 1070 (by decide +kernel) rfl
theorem kX11_257 : Cond.methodLink RX11 257 yX11_makeNew ∈ aTs := aTs_mem 1074 (by decide +kernel) rfl
theorem kX11_212 : Cond.methodLink RX11 212 yX11_childAt ∈ aTs := aTs_mem 1078 (by decide +kernel) rfl
theorem kX11_216 : Cond.methodLink RX11 216 yX11_begin ∈ aTs := aTs_mem 1082 (by decide +kernel) rfl
theorem kX11_223 : Cond.methodLink RX11 223 yX11_step ∈ aTs := aTs_mem 1086 (by decide +kernel) rfl
theorem kX11_219 : Cond.methodLink RX11 219 yX11_makePiece ∈ aTs := aTs_mem 1090 (by decide +kernel) rfl
theorem kX11_206 : Cond.methodLink RX11 206 yX11_write ∈ aTs := aTs_mem 1094 (by decide +kernel) rfl
theorem kX11_209 : Cond.methodLink RX11 209 yX11_writeNumber ∈ aTs := aTs_mem 1098 (by decide +kernel) rfl
theorem kX11_260 : Cond.methodLink RX11 260 yX11_turn ∈ aTs := aTs_mem 1102 (by decide +kernel) rfl
end
section
theorem kX11_248 : Cond.methodLink RX11 248 yX11_takeAll ∈ aTs := aTs_mem 1106 (by decide +kernel) rfl
theorem kX11_233 : Cond.methodLink RX11 233 yX11_sameOf ∈ aTs := aTs_mem 1110 (by decide +kernel) rfl
theorem kX11_226 : Cond.methodLink RX11 226 yX11_isSame ∈ aTs := aTs_mem 1114 (by decide +kernel) rfl
theorem kX11_236 : Cond.methodLink RX11 236 yX11_takeOver ∈ aTs := aTs_mem 1118 (by decide +kernel) rfl
theorem kX11_229 : Cond.methodLink RX11 229 yX11_isMade ∈ aTs := aTs_mem 1122 (by decide +kernel) rfl
theorem kX11_251 : Cond.methodLink RX11 251 yX11_keepLone ∈ aTs := aTs_mem 1126 (by decide +kernel) rfl
theorem kX11_242 : Cond.methodLink RX11 242 yX11_dropLone ∈ aTs := aTs_mem 1130 (by decide +kernel) rfl
theorem kX11_254 : Cond.methodLink RX11 254 yX11_copy ∈ aTs := aTs_mem 1134 (by decide +kernel) rfl
theorem kL_63 : Cond.methodLink RL 63 yX11_piece ∈ aTs := aTs_mem 1138 (by decide +kernel) rfl
theorem kX11_263 : Cond.methodLink RX11 263 yX11_isPiece ∈ aTs := aTs_mem 1142 (by decide +kernel) rfl
theorem kX11_266 : Cond.methodLink RX11 266 yX11_shownLong ∈ aTs := aTs_mem 1146 (by decide +kernel) rfl
theorem kL_68 : Cond.methodLink RL 68 yX11_byteOf ∈ aTs := aTs_mem 1150 (by decide +kernel) rfl
theorem kX11_269 : Cond.methodLink RX11 269 yX11_shown ∈ aTs := aTs_mem 1154 (by decide +kernel) rfl
theorem kL_72 : Cond.methodLink RL 72 yX11_hand ∈ aTs := aTs_mem 1158 (by decide +kernel) rfl
theorem kX11_272 : Cond.methodLink RX11 272 yX11_setBase ∈ aTs := aTs_mem 1162 (by decide +kernel) rfl
theorem kL_76 : Cond.methodLink RL 76 yX11_take ∈ aTs := aTs_mem 1166 (by decide +kernel) rfl
theorem kL_80 : Cond.methodLink RL 80 yX11_back ∈ aTs := aTs_mem 1170 (by decide +kernel) rfl
theorem kX11_275 : Cond.methodLink RX11 275 yX11_piece ∈ aTs := aTs_mem 1174 (by decide +kernel) rfl
theorem kX11_278 : Cond.methodLink RX11 278 yX11_numberOf ∈ aTs := aTs_mem 1175 (by decide +kernel) rfl
theorem kL_85 : Cond.methodLink RL 85 yX11_touch ∈ aTs := aTs_mem 1179 (by decide +kernel) rfl
theorem kX11_281 : Cond.methodLink RX11 281 yX11_isShownAlike ∈ aTs := aTs_mem 1183 (by decide +kernel) rfl
theorem kL_89 : Cond.methodLink RL 89 yX11_text ∈ aTs := aTs_mem 1187 (by decide +kernel) rfl
theorem kX11_287 : Cond.methodLink RX11 287 yX11_pieceAt ∈ aTs := aTs_mem 1191 (by decide +kernel) rfl
theorem kL_93 : Cond.methodLink RL 93 yX11_maker ∈ aTs := aTs_mem 1195 (by decide +kernel) rfl
theorem kL_97 : Cond.methodLink RL 97 yX11_lone ∈ aTs := aTs_mem 1199 (by decide +kernel) rfl
theorem kL_101 : Cond.methodLink RL 101 yX11_drops ∈ aTs := aTs_mem 1203 (by decide +kernel) rfl
theorem kL_105 : Cond.methodLink RL 105 yX11_thingOf ∈ aTs := aTs_mem 1207 (by decide +kernel) rfl
theorem kL_109 : Cond.methodLink RL 109 yX11_about ∈ aTs := aTs_mem 1211 (by decide +kernel) rfl
theorem kX10_9 : Cond.methodLinkNest RX10 9 yX7_init "MadeMended" ∈ lw_tbl := List.mem_of_getElem? (i := 88) (by decide +kernel)
theorem kX10_18 : Cond.methodLinkNest RX10 18 yX4_init "MadeMended" ∈ lw_tbl := List.mem_of_getElem? (i := 103) (by decide +kernel)
theorem kX10_34 : Cond.methodLinkNest RX10 34 yX8_init "MadeMended" ∈ lw_tbl := List.mem_of_getElem? (i := 236) (by decide +kernel)
theorem kX10_53 : Cond.methodLinkNest RX10 53 yX2_init "MadeMended" ∈ lw_tbl := List.mem_of_getElem? (i := 283) (by decide +kernel)
theorem kX6_72 : Cond.methodLinkNest RX6 72 yX10_elementOf "MadeMended" ∈ lw_tbl := List.mem_of_getElem? (i := 514) (by decide +kernel)
theorem kX3_59 : Cond.methodLinkNest RX3 59 yX10_isKind "MadeMended" ∈ lw_tbl := List.mem_of_getElem? (i := 560) (by decide +kernel)
theorem kX3_77 : Cond.methodLinkNest RX3 77 yX10_elementOf "MadeMended" ∈ lw_tbl := List.mem_of_getElem? (i := 561) (by decide +kernel)
theorem kX8_67 : Cond.methodLinkNest RX8 67 yX10_elementOf "MadeMended" ∈ lw_tbl := List.mem_of_getElem? (i := 656) (by decide +kernel)
theorem fX7_9 : aFl RX7 9 8 0 512 true := ⟨RX7, TX7, 2, "MadeMended$Tape", rfl, by decide, rfl, rfl, aTs_mem 92 (by decide +kernel) rfl, Or.inl rfl⟩
theorem fX10_62 : aFl RX10 62 8 1 513 false := ⟨RX7, TX7, 2, "MadeMended$Tape", rfl, by decide, rfl, rfl, aTs_mem 93 (by decide +kernel) rfl, Or.inl rfl⟩
theorem fX7_15 : aFl RX7 15 8 1 513 false := ⟨RX7, TX7, 2, "MadeMended$Tape", rfl, by decide, rfl, rfl, aTs_mem 94 (by decide +kernel) rfl, Or.inl rfl⟩
theorem fJx4a65c_39 : Cond.fieldLink RJx4a65c 39 "java/util/ArrayList" "DEFAULTCAPACITY_EMPTY_ELEMENTDATA" "[Ljava/lang/Object;" ∈ aTs := aTs_mem 125 (by decide +kernel) rfl
theorem fJx4a65c_9 : aFl RJx4a65c 9 0 1 1 true := ⟨RJx4a65c, TJx4a65c, 3, "java/util/ArrayList", rfl, by decide, rfl, rfl, aTs_mem 127 (by decide +kernel) rfl, Or.inl rfl⟩
theorem fJx4a65c_48 : aFl RJx4a65c 48 0 2 2 false := ⟨RJx4a65c, TJx4a65c, 3, "java/util/ArrayList", rfl, by decide, rfl, rfl, aTs_mem 128 (by decide +kernel) rfl, Or.inl rfl⟩
theorem fJxc12de_7 : aFl RJxc12de 7 0 0 0 false := ⟨RJx4a65c, TJx4a65c, 3, "java/util/AbstractList", rfl, by decide, rfl, rfl, aTs_mem 129 (by decide +kernel) rfl, Or.inl rfl⟩
theorem fJx4a65c_63 : aFl RJx4a65c 63 0 0 0 false := ⟨RJx4a65c, TJx4a65c, 3, "java/util/ArrayList", rfl, by decide, rfl, rfl, aTs_mem 130 (by decide +kernel) rfl, Or.inr (aTs_mem 131 (by decide +kernel) rfl)⟩
theorem fX9_22 : aFl RX9 22 10 0 640 false := ⟨RX9, TX9, 8, "MadeMended$Thing", rfl, by decide, rfl, rfl, aTs_mem 139 (by decide +kernel) rfl, Or.inl rfl⟩
theorem fX4_27 : aFl RX4 27 10 0 640 false := ⟨RX9, TX9, 8, "MadeMended$Thing", rfl, by decide, rfl, rfl, aTs_mem 140 (by decide +kernel) rfl, Or.inl rfl⟩
theorem fX10_159 : aFl RX10 159 10 0 640 false := ⟨RX9, TX9, 8, "MadeMended$Thing", rfl, by decide, rfl, rfl, aTs_mem 141 (by decide +kernel) rfl, Or.inl rfl⟩
theorem fX9_26 : aFl RX9 26 10 1 641 false := ⟨RX9, TX9, 8, "MadeMended$Thing", rfl, by decide, rfl, rfl, aTs_mem 142 (by decide +kernel) rfl, Or.inl rfl⟩
theorem fX3_56 : aFl RX3 56 10 1 641 false := ⟨RX9, TX9, 8, "MadeMended$Thing", rfl, by decide, rfl, rfl, aTs_mem 143 (by decide +kernel) rfl, Or.inl rfl⟩
theorem fX10_180 : aFl RX10 180 10 1 641 false := ⟨RX9, TX9, 8, "MadeMended$Thing", rfl, by decide, rfl, rfl, aTs_mem 144 (by decide +kernel) rfl, Or.inl rfl⟩
theorem fX9_29 : aFl RX9 29 10 2 642 true := ⟨RX9, TX9, 8, "MadeMended$Thing", rfl, by decide, rfl, rfl, aTs_mem 145 (by decide +kernel) rfl, Or.inl rfl⟩
theorem fX4_24 : aFl RX4 24 10 2 642 true := ⟨RX9, TX9, 8, "MadeMended$Thing", rfl, by decide, rfl, rfl, aTs_mem 146 (by decide +kernel) rfl, Or.inl rfl⟩
theorem fX10_252 : aFl RX10 252 10 2 642 true := ⟨RX9, TX9, 8, "MadeMended$Thing", rfl, by decide, rfl, rfl, aTs_mem 147 (by decide +kernel) rfl, Or.inl rfl⟩
theorem fX9_33 : aFl RX9 33 10 3 643 false := ⟨RX9, TX9, 8, "MadeMended$Thing", rfl, by decide, rfl, rfl, aTs_mem 148 (by decide +kernel) rfl, Or.inl rfl⟩
theorem fX10_86 : aFl RX10 86 10 3 643 false := ⟨RX9, TX9, 8, "MadeMended$Thing", rfl, by decide, rfl, rfl, aTs_mem 149 (by decide +kernel) rfl, Or.inl rfl⟩
theorem fX9_9 : aFl RX9 9 10 4 644 true := ⟨RX9, TX9, 8, "MadeMended$Thing", rfl, by decide, rfl, rfl, aTs_mem 150 (by decide +kernel) rfl, Or.inl rfl⟩
theorem fX3_71 : aFl RX3 71 10 4 644 true := ⟨RX9, TX9, 8, "MadeMended$Thing", rfl, by decide, rfl, rfl, aTs_mem 151 (by decide +kernel) rfl, Or.inl rfl⟩
theorem fX10_110 : aFl RX10 110 10 4 644 true := ⟨RX9, TX9, 8, "MadeMended$Thing", rfl, by decide, rfl, rfl, aTs_mem 152 (by decide +kernel) rfl, Or.inl rfl⟩
theorem fX9_18 : aFl RX9 18 10 5 645 true := ⟨RX9, TX9, 8, "MadeMended$Thing", rfl, by decide, rfl, rfl, aTs_mem 153 (by decide +kernel) rfl, Or.inl rfl⟩
theorem fX3_32 : aFl RX3 32 10 5 645 true := ⟨RX9, TX9, 8, "MadeMended$Thing", rfl, by decide, rfl, rfl, aTs_mem 154 (by decide +kernel) rfl, Or.inl rfl⟩
theorem fX4_31 : aFl RX4 31 10 5 645 true := ⟨RX9, TX9, 8, "MadeMended$Thing", rfl, by decide, rfl, rfl, aTs_mem 155 (by decide +kernel) rfl, Or.inl rfl⟩
theorem fX9_36 : aFl RX9 36 10 6 646 true := ⟨RX9, TX9, 8, "MadeMended$Thing", rfl, by decide, rfl, rfl, aTs_mem 156 (by decide +kernel) rfl, Or.inl rfl⟩
theorem fX3_103 : aFl RX3 103 10 6 646 true := ⟨RX9, TX9, 8, "MadeMended$Thing", rfl, by decide, rfl, rfl, aTs_mem 157 (by decide +kernel) rfl, Or.inl rfl⟩
theorem fX10_114 : aFl RX10 114 10 6 646 true := ⟨RX9, TX9, 8, "MadeMended$Thing", rfl, by decide, rfl, rfl, aTs_mem 158 (by decide +kernel) rfl, Or.inl rfl⟩
theorem fX4_66 : aFl RX4 66 10 7 647 false := ⟨RX9, TX9, 8, "MadeMended$Thing", rfl, by decide, rfl, rfl, aTs_mem 159 (by decide +kernel) rfl, Or.inl rfl⟩
theorem fX10_156 : aFl RX10 156 10 7 647 false := ⟨RX9, TX9, 8, "MadeMended$Thing", rfl, by decide, rfl, rfl, aTs_mem 160 (by decide +kernel) rfl, Or.inl rfl⟩
theorem fX4_14 : aFl RX4 14 5 0 320 true := ⟨RX4, TX4, 3, "MadeMended$Model", rfl, by decide, rfl, rfl, aTs_mem 179 (by decide +kernel) rfl, Or.inl rfl⟩
theorem fX10_70 : aFl RX10 70 5 0 320 true := ⟨RX4, TX4, 3, "MadeMended$Model", rfl, by decide, rfl, rfl, aTs_mem 180 (by decide +kernel) rfl, Or.inl rfl⟩
theorem fX4_20 : aFl RX4 20 5 1 321 true := ⟨RX4, TX4, 3, "MadeMended$Model", rfl, by decide, rfl, rfl, aTs_mem 181 (by decide +kernel) rfl, Or.inl rfl⟩
theorem fX4_41 : aFl RX4 41 5 2 322 false := ⟨RX4, TX4, 3, "MadeMended$Model", rfl, by decide, rfl, rfl, aTs_mem 182 (by decide +kernel) rfl, Or.inl rfl⟩
theorem fX10_258 : aFl RX10 258 5 2 322 false := ⟨RX4, TX4, 3, "MadeMended$Model", rfl, by decide, rfl, rfl, aTs_mem 183 (by decide +kernel) rfl, Or.inl rfl⟩
theorem fX6_21 : aFl RX6 21 7 0 448 true := ⟨RX6, TX6, 8, "MadeMended$Rule", rfl, by decide, rfl, rfl, aTs_mem 201 (by decide +kernel) rfl, Or.inl rfl⟩
theorem fX3_96 : aFl RX3 96 7 0 448 true := ⟨RX6, TX6, 8, "MadeMended$Rule", rfl, by decide, rfl, rfl, aTs_mem 202 (by decide +kernel) rfl, Or.inl rfl⟩
theorem fX6_25 : aFl RX6 25 7 1 449 true := ⟨RX6, TX6, 8, "MadeMended$Rule", rfl, by decide, rfl, rfl, aTs_mem 203 (by decide +kernel) rfl, Or.inl rfl⟩
theorem fX3_68 : aFl RX3 68 7 1 449 true := ⟨RX6, TX6, 8, "MadeMended$Rule", rfl, by decide, rfl, rfl, aTs_mem 204 (by decide +kernel) rfl, Or.inl rfl⟩
theorem fX6_28 : aFl RX6 28 7 2 450 true := ⟨RX6, TX6, 8, "MadeMended$Rule", rfl, by decide, rfl, rfl, aTs_mem 205 (by decide +kernel) rfl, Or.inl rfl⟩
theorem fX3_74 : aFl RX3 74 7 2 450 true := ⟨RX6, TX6, 8, "MadeMended$Rule", rfl, by decide, rfl, rfl, aTs_mem 206 (by decide +kernel) rfl, Or.inl rfl⟩
theorem fX6_31 : aFl RX6 31 7 3 451 true := ⟨RX6, TX6, 8, "MadeMended$Rule", rfl, by decide, rfl, rfl, aTs_mem 207 (by decide +kernel) rfl, Or.inl rfl⟩
theorem fX3_89 : aFl RX3 89 7 3 451 true := ⟨RX6, TX6, 8, "MadeMended$Rule", rfl, by decide, rfl, rfl, aTs_mem 208 (by decide +kernel) rfl, Or.inl rfl⟩
theorem fX3_63 : aFl RX3 63 7 4 452 false := ⟨RX6, TX6, 8, "MadeMended$Rule", rfl, by decide, rfl, rfl, aTs_mem 209 (by decide +kernel) rfl, Or.inl rfl⟩
theorem fX6_65 : aFl RX6 65 7 4 452 false := ⟨RX6, TX6, 8, "MadeMended$Rule", rfl, by decide, rfl, rfl, aTs_mem 210 (by decide +kernel) rfl, Or.inl rfl⟩
theorem fX10_131 : aFl RX10 131 7 4 452 false := ⟨RX6, TX6, 8, "MadeMended$Rule", rfl, by decide, rfl, rfl, aTs_mem 211 (by decide +kernel) rfl, Or.inl rfl⟩
theorem fX6_34 : aFl RX6 34 7 5 453 false := ⟨RX6, TX6, 8, "MadeMended$Rule", rfl, by decide, rfl, rfl, aTs_mem 212 (by decide +kernel) rfl, Or.inl rfl⟩
theorem fX10_128 : aFl RX10 128 7 5 453 false := ⟨RX6, TX6, 8, "MadeMended$Rule", rfl, by decide, rfl, rfl, aTs_mem 213 (by decide +kernel) rfl, Or.inl rfl⟩
theorem fX6_9 : aFl RX6 9 7 6 454 false := ⟨RX6, TX6, 8, "MadeMended$Rule", rfl, by decide, rfl, rfl, aTs_mem 214 (by decide +kernel) rfl, Or.inl rfl⟩
theorem fX10_134 : aFl RX10 134 7 6 454 false := ⟨RX6, TX6, 8, "MadeMended$Rule", rfl, by decide, rfl, rfl, aTs_mem 215 (by decide +kernel) rfl, Or.inl rfl⟩
theorem fX6_44 : aFl RX6 44 7 7 455 false := ⟨RX6, TX6, 8, "MadeMended$Rule", rfl, by decide, rfl, rfl, aTs_mem 216 (by decide +kernel) rfl, Or.inl rfl⟩
theorem fX8_11 : aFl RX8 11 9 0 576 true := ⟨RX8, TX8, 5, "MadeMended$Text", rfl, by decide, rfl, rfl, aTs_mem 242 (by decide +kernel) rfl, Or.inl rfl⟩
theorem fX8_17 : aFl RX8 17 9 1 577 true := ⟨RX8, TX8, 5, "MadeMended$Text", rfl, by decide, rfl, rfl, aTs_mem 243 (by decide +kernel) rfl, Or.inl rfl⟩
theorem fX8_21 : aFl RX8 21 9 2 578 false := ⟨RX8, TX8, 5, "MadeMended$Text", rfl, by decide, rfl, rfl, aTs_mem 244 (by decide +kernel) rfl, Or.inl rfl⟩
theorem fX8_25 : aFl RX8 25 9 3 579 false := ⟨RX8, TX8, 5, "MadeMended$Text", rfl, by decide, rfl, rfl, aTs_mem 245 (by decide +kernel) rfl, Or.inl rfl⟩
theorem fX2_28 : aFl RX2 28 9 3 579 false := ⟨RX8, TX8, 5, "MadeMended$Text", rfl, by decide, rfl, rfl, aTs_mem 246 (by decide +kernel) rfl, Or.inl rfl⟩
theorem fX10_234 : aFl RX10 234 9 3 579 false := ⟨RX8, TX8, 5, "MadeMended$Text", rfl, by decide, rfl, rfl, aTs_mem 247 (by decide +kernel) rfl, Or.inl rfl⟩
theorem fX8_28 : aFl RX8 28 9 4 580 false := ⟨RX8, TX8, 5, "MadeMended$Text", rfl, by decide, rfl, rfl, aTs_mem 248 (by decide +kernel) rfl, Or.inl rfl⟩
theorem fX3_44 : aFl RX3 44 9 4 580 false := ⟨RX8, TX8, 5, "MadeMended$Text", rfl, by decide, rfl, rfl, aTs_mem 249 (by decide +kernel) rfl, Or.inl rfl⟩
theorem fX10_141 : aFl RX10 141 9 4 580 false := ⟨RX8, TX8, 5, "MadeMended$Text", rfl, by decide, rfl, rfl, aTs_mem 250 (by decide +kernel) rfl, Or.inl rfl⟩
theorem fX3_9 : aFl RX3 9 4 0 256 true := ⟨RX3, TX3, 4, "MadeMended$Making", rfl, by decide, rfl, rfl, aTs_mem 268 (by decide +kernel) rfl, Or.inl rfl⟩
theorem fX3_15 : aFl RX3 15 4 1 257 true := ⟨RX3, TX3, 4, "MadeMended$Making", rfl, by decide, rfl, rfl, aTs_mem 269 (by decide +kernel) rfl, Or.inl rfl⟩
theorem fX3_19 : aFl RX3 19 4 2 258 true := ⟨RX3, TX3, 4, "MadeMended$Making", rfl, by decide, rfl, rfl, aTs_mem 270 (by decide +kernel) rfl, Or.inl rfl⟩
theorem fX3_23 : aFl RX3 23 4 3 259 false := ⟨RX3, TX3, 4, "MadeMended$Making", rfl, by decide, rfl, rfl, aTs_mem 271 (by decide +kernel) rfl, Or.inl rfl⟩
theorem fX2_12 : aFl RX2 12 3 0 192 true := ⟨RX2, TX2, 2, "MadeMended$LoneTexts", rfl, by decide, rfl, rfl, aTs_mem 289 (by decide +kernel) rfl, Or.inl rfl⟩
theorem fX10_259 : aFl RX10 259 3 0 192 true := ⟨RX2, TX2, 2, "MadeMended$LoneTexts", rfl, by decide, rfl, rfl, aTs_mem 290 (by decide +kernel) rfl, Or.inl rfl⟩
theorem fX2_70 : aFl RX2 70 3 1 193 false := ⟨RX2, TX2, 2, "MadeMended$LoneTexts", rfl, by decide, rfl, rfl, aTs_mem 291 (by decide +kernel) rfl, Or.inl rfl⟩
theorem fX10_268 : aFl RX10 268 3 1 193 false := ⟨RX2, TX2, 2, "MadeMended$LoneTexts", rfl, by decide, rfl, rfl, aTs_mem 292 (by decide +kernel) rfl, Or.inl rfl⟩
theorem fX10_10 : aFl RX10 10 11 0 704 true := ⟨RX10, TX10, 8, "MadeMended", rfl, by decide, rfl, rfl, aTs_mem 298 (by decide +kernel) rfl, Or.inl rfl⟩
theorem fX10_19 : aFl RX10 19 11 1 705 true := ⟨RX10, TX10, 8, "MadeMended", rfl, by decide, rfl, rfl, aTs_mem 299 (by decide +kernel) rfl, Or.inl rfl⟩
theorem fX10_25 : aFl RX10 25 11 2 706 true := ⟨RX10, TX10, 8, "MadeMended", rfl, by decide, rfl, rfl, aTs_mem 300 (by decide +kernel) rfl, Or.inl rfl⟩
theorem fX10_47 : aFl RX10 47 11 3 707 true := ⟨RX10, TX10, 8, "MadeMended", rfl, by decide, rfl, rfl, aTs_mem 301 (by decide +kernel) rfl, Or.inl rfl⟩
theorem fX10_54 : aFl RX10 54 11 4 708 true := ⟨RX10, TX10, 8, "MadeMended", rfl, by decide, rfl, rfl, aTs_mem 302 (by decide +kernel) rfl, Or.inl rfl⟩
theorem fX10_58 : aFl RX10 58 11 5 709 true := ⟨RX10, TX10, 8, "MadeMended", rfl, by decide, rfl, rfl, aTs_mem 303 (by decide +kernel) rfl, Or.inl rfl⟩
theorem fX10_35 : aFl RX10 35 11 6 710 true := ⟨RX10, TX10, 8, "MadeMended", rfl, by decide, rfl, rfl, aTs_mem 304 (by decide +kernel) rfl, Or.inl rfl⟩
theorem fX10_39 : aFl RX10 39 11 7 711 true := ⟨RX10, TX10, 8, "MadeMended", rfl, by decide, rfl, rfl, aTs_mem 305 (by decide +kernel) rfl, Or.inl rfl⟩
theorem fX5_7 : aFl RX5 7 6 0 384 true := ⟨RX5, TX5, 9, "MadeMended$Piece", rfl, by decide, rfl, rfl, aTs_mem 579 (by decide +kernel) rfl, Or.inl rfl⟩
theorem fX8_35 : aFl RX8 35 6 0 384 true := ⟨RX5, TX5, 9, "MadeMended$Piece", rfl, by decide, rfl, rfl, aTs_mem 580 (by decide +kernel) rfl, Or.inl rfl⟩
theorem fX10_151 : aFl RX10 151 6 0 384 true := ⟨RX5, TX5, 9, "MadeMended$Piece", rfl, by decide, rfl, rfl, aTs_mem 581 (by decide +kernel) rfl, Or.inl rfl⟩
theorem fX5_27 : aFl RX5 27 6 1 385 false := ⟨RX5, TX5, 9, "MadeMended$Piece", rfl, by decide, rfl, rfl, aTs_mem 582 (by decide +kernel) rfl, Or.inl rfl⟩
theorem fX2_57 : aFl RX2 57 6 1 385 false := ⟨RX5, TX5, 9, "MadeMended$Piece", rfl, by decide, rfl, rfl, aTs_mem 583 (by decide +kernel) rfl, Or.inl rfl⟩
theorem fX8_39 : aFl RX8 39 6 1 385 false := ⟨RX5, TX5, 9, "MadeMended$Piece", rfl, by decide, rfl, rfl, aTs_mem 584 (by decide +kernel) rfl, Or.inl rfl⟩
theorem fX10_162 : aFl RX10 162 6 1 385 false := ⟨RX5, TX5, 9, "MadeMended$Piece", rfl, by decide, rfl, rfl, aTs_mem 585 (by decide +kernel) rfl, Or.inl rfl⟩
theorem fX5_30 : aFl RX5 30 6 2 386 false := ⟨RX5, TX5, 9, "MadeMended$Piece", rfl, by decide, rfl, rfl, aTs_mem 586 (by decide +kernel) rfl, Or.inl rfl⟩
theorem fX2_54 : aFl RX2 54 6 2 386 false := ⟨RX5, TX5, 9, "MadeMended$Piece", rfl, by decide, rfl, rfl, aTs_mem 587 (by decide +kernel) rfl, Or.inl rfl⟩
theorem fX8_42 : aFl RX8 42 6 2 386 false := ⟨RX5, TX5, 9, "MadeMended$Piece", rfl, by decide, rfl, rfl, aTs_mem 588 (by decide +kernel) rfl, Or.inl rfl⟩
theorem fX10_165 : aFl RX10 165 6 2 386 false := ⟨RX5, TX5, 9, "MadeMended$Piece", rfl, by decide, rfl, rfl, aTs_mem 589 (by decide +kernel) rfl, Or.inl rfl⟩
theorem fX8_45 : aFl RX8 45 6 3 387 false := ⟨RX5, TX5, 9, "MadeMended$Piece", rfl, by decide, rfl, rfl, aTs_mem 590 (by decide +kernel) rfl, Or.inl rfl⟩
theorem fX10_217 : aFl RX10 217 6 3 387 false := ⟨RX5, TX5, 9, "MadeMended$Piece", rfl, by decide, rfl, rfl, aTs_mem 591 (by decide +kernel) rfl, Or.inl rfl⟩
theorem fX5_33 : aFl RX5 33 6 4 388 false := ⟨RX5, TX5, 9, "MadeMended$Piece", rfl, by decide, rfl, rfl, aTs_mem 592 (by decide +kernel) rfl, Or.inl rfl⟩
theorem fX8_48 : aFl RX8 48 6 4 388 false := ⟨RX5, TX5, 9, "MadeMended$Piece", rfl, by decide, rfl, rfl, aTs_mem 593 (by decide +kernel) rfl, Or.inl rfl⟩
theorem fX8_51 : aFl RX8 51 6 5 389 false := ⟨RX5, TX5, 9, "MadeMended$Piece", rfl, by decide, rfl, rfl, aTs_mem 594 (by decide +kernel) rfl, Or.inl rfl⟩
theorem fX5_17 : aFl RX5 17 6 6 390 false := ⟨RX5, TX5, 9, "MadeMended$Piece", rfl, by decide, rfl, rfl, aTs_mem 595 (by decide +kernel) rfl, Or.inl rfl⟩
theorem fX8_54 : aFl RX8 54 6 6 390 false := ⟨RX5, TX5, 9, "MadeMended$Piece", rfl, by decide, rfl, rfl, aTs_mem 596 (by decide +kernel) rfl, Or.inl rfl⟩
theorem fX10_171 : aFl RX10 171 6 6 390 false := ⟨RX5, TX5, 9, "MadeMended$Piece", rfl, by decide, rfl, rfl, aTs_mem 597 (by decide +kernel) rfl, Or.inl rfl⟩
theorem fX5_13 : aFl RX5 13 6 7 391 true := ⟨RX5, TX5, 9, "MadeMended$Piece", rfl, by decide, rfl, rfl, aTs_mem 598 (by decide +kernel) rfl, Or.inl rfl⟩
theorem fX2_44 : aFl RX2 44 6 7 391 true := ⟨RX5, TX5, 9, "MadeMended$Piece", rfl, by decide, rfl, rfl, aTs_mem 599 (by decide +kernel) rfl, Or.inl rfl⟩
theorem fX8_57 : aFl RX8 57 6 7 391 true := ⟨RX5, TX5, 9, "MadeMended$Piece", rfl, by decide, rfl, rfl, aTs_mem 600 (by decide +kernel) rfl, Or.inl rfl⟩
theorem fX10_172 : aFl RX10 172 6 7 391 true := ⟨RX5, TX5, 9, "MadeMended$Piece", rfl, by decide, rfl, rfl, aTs_mem 601 (by decide +kernel) rfl, Or.inl rfl⟩
theorem fX2_38 : aFl RX2 38 6 8 392 false := ⟨RX5, TX5, 9, "MadeMended$Piece", rfl, by decide, rfl, rfl, aTs_mem 602 (by decide +kernel) rfl, Or.inl rfl⟩
theorem fX8_98 : aFl RX8 98 6 8 392 false := ⟨RX5, TX5, 9, "MadeMended$Piece", rfl, by decide, rfl, rfl, aTs_mem 603 (by decide +kernel) rfl, Or.inl rfl⟩
theorem fX1_7 : aFl RX1 7 2 0 128 true := ⟨RX1, TX1, 3, "MadeMended$Lone", rfl, by decide, rfl, rfl, aTs_mem 671 (by decide +kernel) rfl, Or.inl rfl⟩
theorem fX10_245 : aFl RX10 245 2 0 128 true := ⟨RX1, TX1, 3, "MadeMended$Lone", rfl, by decide, rfl, rfl, aTs_mem 672 (by decide +kernel) rfl, Or.inl rfl⟩
theorem fX1_13 : aFl RX1 13 2 1 129 false := ⟨RX1, TX1, 3, "MadeMended$Lone", rfl, by decide, rfl, rfl, aTs_mem 673 (by decide +kernel) rfl, Or.inl rfl⟩
theorem fX10_248 : aFl RX10 248 2 1 129 false := ⟨RX1, TX1, 3, "MadeMended$Lone", rfl, by decide, rfl, rfl, aTs_mem 674 (by decide +kernel) rfl, Or.inl rfl⟩
theorem fX1_17 : aFl RX1 17 2 2 130 false := ⟨RX1, TX1, 3, "MadeMended$Lone", rfl, by decide, rfl, rfl, aTs_mem 675 (by decide +kernel) rfl, Or.inl rfl⟩
theorem fX10_249 : aFl RX10 249 2 2 130 false := ⟨RX1, TX1, 3, "MadeMended$Lone", rfl, by decide, rfl, rfl, aTs_mem 676 (by decide +kernel) rfl, Or.inl rfl⟩
theorem fX0_7 : aFl RX0 7 1 0 64 true := ⟨RX0, TX0, 2, "MadeMended$Hand", rfl, by decide, rfl, rfl, aTs_mem 729 (by decide +kernel) rfl, Or.inl rfl⟩
theorem fX5_21 : aFl RX5 21 1 0 64 true := ⟨RX0, TX0, 2, "MadeMended$Hand", rfl, by decide, rfl, rfl, aTs_mem 730 (by decide +kernel) rfl, Or.inl rfl⟩
theorem fX2_48 : aFl RX2 48 1 0 64 true := ⟨RX0, TX0, 2, "MadeMended$Hand", rfl, by decide, rfl, rfl, aTs_mem 731 (by decide +kernel) rfl, Or.inl rfl⟩
theorem fX8_75 : aFl RX8 75 1 0 64 true := ⟨RX0, TX0, 2, "MadeMended$Hand", rfl, by decide, rfl, rfl, aTs_mem 732 (by decide +kernel) rfl, Or.inl rfl⟩
theorem fX10_210 : aFl RX10 210 1 0 64 true := ⟨RX0, TX0, 2, "MadeMended$Hand", rfl, by decide, rfl, rfl, aTs_mem 733 (by decide +kernel) rfl, Or.inl rfl⟩
theorem fX0_13 : aFl RX0 13 1 1 65 true := ⟨RX0, TX0, 2, "MadeMended$Hand", rfl, by decide, rfl, rfl, aTs_mem 734 (by decide +kernel) rfl, Or.inl rfl⟩
theorem fX8_80 : aFl RX8 80 1 1 65 true := ⟨RX0, TX0, 2, "MadeMended$Hand", rfl, by decide, rfl, rfl, aTs_mem 735 (by decide +kernel) rfl, Or.inl rfl⟩
theorem fX10_190 : aFl RX10 190 1 1 65 true := ⟨RX0, TX0, 2, "MadeMended$Hand", rfl, by decide, rfl, rfl, aTs_mem 736 (by decide +kernel) rfl, Or.inl rfl⟩
theorem fX11_153 : aFl RX11 153 12 0 768 false := ⟨RX11, TX11, 52, "MadeMendedModel", rfl, by decide, rfl, rfl, aTs_mem 828 (by decide +kernel) rfl, Or.inl rfl⟩
theorem fX11_7 : aFl RX11 7 12 1 769 true := ⟨RX11, TX11, 52, "MadeMendedModel", rfl, by decide, rfl, rfl, aTs_mem 829 (by decide +kernel) rfl, Or.inl rfl⟩
theorem fX11_159 : aFl RX11 159 12 2 770 false := ⟨RX11, TX11, 52, "MadeMendedModel", rfl, by decide, rfl, rfl, aTs_mem 830 (by decide +kernel) rfl, Or.inl rfl⟩
theorem fX11_13 : aFl RX11 13 12 3 771 true := ⟨RX11, TX11, 52, "MadeMendedModel", rfl, by decide, rfl, rfl, aTs_mem 831 (by decide +kernel) rfl, Or.inl rfl⟩
theorem fX11_16 : aFl RX11 16 12 4 772 true := ⟨RX11, TX11, 52, "MadeMendedModel", rfl, by decide, rfl, rfl, aTs_mem 832 (by decide +kernel) rfl, Or.inl rfl⟩
theorem fX11_19 : aFl RX11 19 12 5 773 true := ⟨RX11, TX11, 52, "MadeMendedModel", rfl, by decide, rfl, rfl, aTs_mem 833 (by decide +kernel) rfl, Or.inl rfl⟩
theorem fX11_22 : aFl RX11 22 12 6 774 true := ⟨RX11, TX11, 52, "MadeMendedModel", rfl, by decide, rfl, rfl, aTs_mem 834 (by decide +kernel) rfl, Or.inl rfl⟩
theorem fX11_25 : aFl RX11 25 12 7 775 true := ⟨RX11, TX11, 52, "MadeMendedModel", rfl, by decide, rfl, rfl, aTs_mem 835 (by decide +kernel) rfl, Or.inl rfl⟩
theorem fX11_28 : aFl RX11 28 12 8 776 true := ⟨RX11, TX11, 52, "MadeMendedModel", rfl, by decide, rfl, rfl, aTs_mem 836 (by decide +kernel) rfl, Or.inl rfl⟩
theorem fX11_31 : aFl RX11 31 12 9 777 true := ⟨RX11, TX11, 52, "MadeMendedModel", rfl, by decide, rfl, rfl, aTs_mem 837 (by decide +kernel) rfl, Or.inl rfl⟩
theorem fX11_34 : aFl RX11 34 12 10 778 true := ⟨RX11, TX11, 52, "MadeMendedModel", rfl, by decide, rfl, rfl, aTs_mem 838 (by decide +kernel) rfl, Or.inl rfl⟩
theorem fX11_37 : aFl RX11 37 12 11 779 true := ⟨RX11, TX11, 52, "MadeMendedModel", rfl, by decide, rfl, rfl, aTs_mem 839 (by decide +kernel) rfl, Or.inl rfl⟩
theorem fX11_40 : aFl RX11 40 12 12 780 true := ⟨RX11, TX11, 52, "MadeMendedModel", rfl, by decide, rfl, rfl, aTs_mem 840 (by decide +kernel) rfl, Or.inl rfl⟩
theorem fX11_43 : aFl RX11 43 12 13 781 true := ⟨RX11, TX11, 52, "MadeMendedModel", rfl, by decide, rfl, rfl, aTs_mem 841 (by decide +kernel) rfl, Or.inl rfl⟩
theorem fX11_46 : aFl RX11 46 12 14 782 false := ⟨RX11, TX11, 52, "MadeMendedModel", rfl, by decide, rfl, rfl, aTs_mem 842 (by decide +kernel) rfl, Or.inl rfl⟩
theorem fX11_50 : aFl RX11 50 12 15 783 false := ⟨RX11, TX11, 52, "MadeMendedModel", rfl, by decide, rfl, rfl, aTs_mem 843 (by decide +kernel) rfl, Or.inl rfl⟩
theorem fX11_53 : aFl RX11 53 12 16 784 true := ⟨RX11, TX11, 52, "MadeMendedModel", rfl, by decide, rfl, rfl, aTs_mem 844 (by decide +kernel) rfl, Or.inl rfl⟩
theorem fX11_134 : aFl RX11 134 12 17 785 false := ⟨RX11, TX11, 52, "MadeMendedModel", rfl, by decide, rfl, rfl, aTs_mem 845 (by decide +kernel) rfl, Or.inl rfl⟩
theorem fX11_173 : aFl RX11 173 12 18 786 false := ⟨RX11, TX11, 52, "MadeMendedModel", rfl, by decide, rfl, rfl, aTs_mem 846 (by decide +kernel) rfl, Or.inl rfl⟩
theorem fX11_170 : aFl RX11 170 12 19 787 false := ⟨RX11, TX11, 52, "MadeMendedModel", rfl, by decide, rfl, rfl, aTs_mem 847 (by decide +kernel) rfl, Or.inl rfl⟩
theorem fX11_183 : aFl RX11 183 12 20 788 false := ⟨RX11, TX11, 52, "MadeMendedModel", rfl, by decide, rfl, rfl, aTs_mem 848 (by decide +kernel) rfl, Or.inl rfl⟩
theorem fX11_56 : aFl RX11 56 12 21 789 true := ⟨RX11, TX11, 52, "MadeMendedModel", rfl, by decide, rfl, rfl, aTs_mem 849 (by decide +kernel) rfl, Or.inl rfl⟩
theorem fX11_59 : aFl RX11 59 12 22 790 true := ⟨RX11, TX11, 52, "MadeMendedModel", rfl, by decide, rfl, rfl, aTs_mem 850 (by decide +kernel) rfl, Or.inl rfl⟩
theorem fX11_62 : aFl RX11 62 12 23 791 true := ⟨RX11, TX11, 52, "MadeMendedModel", rfl, by decide, rfl, rfl, aTs_mem 851 (by decide +kernel) rfl, Or.inl rfl⟩
theorem fX11_65 : aFl RX11 65 12 24 792 true := ⟨RX11, TX11, 52, "MadeMendedModel", rfl, by decide, rfl, rfl, aTs_mem 852 (by decide +kernel) rfl, Or.inl rfl⟩
theorem fX11_68 : aFl RX11 68 12 25 793 true := ⟨RX11, TX11, 52, "MadeMendedModel", rfl, by decide, rfl, rfl, aTs_mem 853 (by decide +kernel) rfl, Or.inl rfl⟩
theorem fX11_71 : aFl RX11 71 12 26 794 true := ⟨RX11, TX11, 52, "MadeMendedModel", rfl, by decide, rfl, rfl, aTs_mem 854 (by decide +kernel) rfl, Or.inl rfl⟩
theorem fX11_74 : aFl RX11 74 12 27 795 true := ⟨RX11, TX11, 52, "MadeMendedModel", rfl, by decide, rfl, rfl, aTs_mem 855 (by decide +kernel) rfl, Or.inl rfl⟩
theorem fX11_77 : aFl RX11 77 12 28 796 true := ⟨RX11, TX11, 52, "MadeMendedModel", rfl, by decide, rfl, rfl, aTs_mem 856 (by decide +kernel) rfl, Or.inl rfl⟩
theorem fX11_80 : aFl RX11 80 12 29 797 true := ⟨RX11, TX11, 52, "MadeMendedModel", rfl, by decide, rfl, rfl, aTs_mem 857 (by decide +kernel) rfl, Or.inl rfl⟩
theorem fX11_83 : aFl RX11 83 12 30 798 true := ⟨RX11, TX11, 52, "MadeMendedModel", rfl, by decide, rfl, rfl, aTs_mem 858 (by decide +kernel) rfl, Or.inl rfl⟩
theorem fX11_86 : aFl RX11 86 12 31 799 true := ⟨RX11, TX11, 52, "MadeMendedModel", rfl, by decide, rfl, rfl, aTs_mem 859 (by decide +kernel) rfl, Or.inl rfl⟩
theorem fX11_203 : aFl RX11 203 12 32 800 false := ⟨RX11, TX11, 52, "MadeMendedModel", rfl, by decide, rfl, rfl, aTs_mem 860 (by decide +kernel) rfl, Or.inl rfl⟩
theorem fX11_89 : aFl RX11 89 12 33 801 true := ⟨RX11, TX11, 52, "MadeMendedModel", rfl, by decide, rfl, rfl, aTs_mem 861 (by decide +kernel) rfl, Or.inl rfl⟩
theorem fX11_92 : aFl RX11 92 12 34 802 true := ⟨RX11, TX11, 52, "MadeMendedModel", rfl, by decide, rfl, rfl, aTs_mem 862 (by decide +kernel) rfl, Or.inl rfl⟩
theorem fX11_95 : aFl RX11 95 12 35 803 true := ⟨RX11, TX11, 52, "MadeMendedModel", rfl, by decide, rfl, rfl, aTs_mem 863 (by decide +kernel) rfl, Or.inl rfl⟩
theorem fX11_99 : aFl RX11 99 12 36 804 true := ⟨RX11, TX11, 52, "MadeMendedModel", rfl, by decide, rfl, rfl, aTs_mem 864 (by decide +kernel) rfl, Or.inl rfl⟩
theorem fX11_102 : aFl RX11 102 12 37 805 true := ⟨RX11, TX11, 52, "MadeMendedModel", rfl, by decide, rfl, rfl, aTs_mem 865 (by decide +kernel) rfl, Or.inl rfl⟩
theorem fX11_106 : aFl RX11 106 12 38 806 true := ⟨RX11, TX11, 52, "MadeMendedModel", rfl, by decide, rfl, rfl, aTs_mem 866 (by decide +kernel) rfl, Or.inl rfl⟩
theorem fX11_109 : aFl RX11 109 12 39 807 true := ⟨RX11, TX11, 52, "MadeMendedModel", rfl, by decide, rfl, rfl, aTs_mem 867 (by decide +kernel) rfl, Or.inl rfl⟩
theorem fX11_112 : aFl RX11 112 12 40 808 true := ⟨RX11, TX11, 52, "MadeMendedModel", rfl, by decide, rfl, rfl, aTs_mem 868 (by decide +kernel) rfl, Or.inl rfl⟩
theorem fX11_115 : aFl RX11 115 12 41 809 true := ⟨RX11, TX11, 52, "MadeMendedModel", rfl, by decide, rfl, rfl, aTs_mem 869 (by decide +kernel) rfl, Or.inl rfl⟩
theorem fX11_200 : aFl RX11 200 12 42 810 false := ⟨RX11, TX11, 52, "MadeMendedModel", rfl, by decide, rfl, rfl, aTs_mem 870 (by decide +kernel) rfl, Or.inl rfl⟩
theorem fX11_194 : aFl RX11 194 12 43 811 false := ⟨RX11, TX11, 52, "MadeMendedModel", rfl, by decide, rfl, rfl, aTs_mem 871 (by decide +kernel) rfl, Or.inl rfl⟩
theorem fX11_197 : aFl RX11 197 12 44 812 false := ⟨RX11, TX11, 52, "MadeMendedModel", rfl, by decide, rfl, rfl, aTs_mem 872 (by decide +kernel) rfl, Or.inl rfl⟩
theorem fX11_239 : aFl RX11 239 12 45 813 false := ⟨RX11, TX11, 52, "MadeMendedModel", rfl, by decide, rfl, rfl, aTs_mem 873 (by decide +kernel) rfl, Or.inl rfl⟩
theorem fX11_118 : aFl RX11 118 12 46 814 true := ⟨RX11, TX11, 52, "MadeMendedModel", rfl, by decide, rfl, rfl, aTs_mem 874 (by decide +kernel) rfl, Or.inl rfl⟩
theorem fX11_121 : aFl RX11 121 12 47 815 true := ⟨RX11, TX11, 52, "MadeMendedModel", rfl, by decide, rfl, rfl, aTs_mem 875 (by decide +kernel) rfl, Or.inl rfl⟩
theorem fX11_124 : aFl RX11 124 12 48 816 true := ⟨RX11, TX11, 52, "MadeMendedModel", rfl, by decide, rfl, rfl, aTs_mem 876 (by decide +kernel) rfl, Or.inl rfl⟩
theorem fX11_127 : aFl RX11 127 12 49 817 true := ⟨RX11, TX11, 52, "MadeMendedModel", rfl, by decide, rfl, rfl, aTs_mem 877 (by decide +kernel) rfl, Or.inl rfl⟩
theorem fX11_245 : aFl RX11 245 12 50 818 false := ⟨RX11, TX11, 52, "MadeMendedModel", rfl, by decide, rfl, rfl, aTs_mem 878 (by decide +kernel) rfl, Or.inl rfl⟩
theorem fX11_284 : aFl RX11 284 12 51 819 false := ⟨RX11, TX11, 52, "MadeMendedModel", rfl, by decide, rfl, rfl, aTs_mem 879 (by decide +kernel) rfl, Or.inl rfl⟩
theorem qL_7 : Cond.classLink RL 7 "MadeMended" ∈ aTs := aTs_mem 78 (by decide +kernel) rfl
theorem nL_7 : aNl RL 7 11 := ⟨RX10, TX10, 8, rfl, aTs_mem 78 (by decide +kernel) rfl, aTs_mem 79 (by decide +kernel) rfl, aTs_mem 57 (by decide +kernel) rfl⟩
theorem qX10_7 : Cond.classLink RX10 7 "MadeMended$Tape" ∈ aTs := aTs_mem 86 (by decide +kernel) rfl
theorem nX10_7 : aNl RX10 7 8 := ⟨RX7, TX7, 2, rfl, aTs_mem 86 (by decide +kernel) rfl, aTs_mem 87 (by decide +kernel) rfl, aTs_mem 58 (by decide +kernel) rfl⟩
theorem qX10_16 : Cond.classLink RX10 16 "MadeMended$Model" ∈ aTs := aTs_mem 101 (by decide +kernel) rfl
theorem nX10_16 : aNl RX10 16 5 := ⟨RX4, TX4, 3, rfl, aTs_mem 101 (by decide +kernel) rfl, aTs_mem 102 (by decide +kernel) rfl, aTs_mem 59 (by decide +kernel) rfl⟩
theorem qX4_9 : Cond.classLink RX4 9 "MadeMended$Thing" ∈ aTs := aTs_mem 107 (by decide +kernel) rfl
theorem nX4_9 : aNl RX4 9 10 := ⟨RX9, TX9, 8, rfl, aTs_mem 107 (by decide +kernel) rfl, aTs_mem 108 (by decide +kernel) rfl, aTs_mem 60 (by decide +kernel) rfl⟩
theorem qX9_15 : Cond.classLink RX9 15 "java/util/ArrayList" ∈ aTs := aTs_mem 113 (by decide +kernel) rfl
theorem nX9_15 : aNl RX9 15 0 := ⟨RJx4a65c, TJx4a65c, 3, rfl, aTs_mem 113 (by decide +kernel) rfl, aTs_mem 114 (by decide +kernel) rfl, aTs_mem 63 (by decide +kernel) rfl⟩
theorem qX10_23 : Cond.classLink RX10 23 "MadeMended$Rule" ∈ aTs := aTs_mem 191 (by decide +kernel) rfl
theorem nX10_23 : aNl RX10 23 7 := ⟨RX6, TX6, 8, rfl, aTs_mem 191 (by decide +kernel) rfl, aTs_mem 193 (by decide +kernel) rfl, aTs_mem 64 (by decide +kernel) rfl⟩
theorem qX10_32 : Cond.classLink RX10 32 "MadeMended$Text" ∈ aTs := aTs_mem 234 (by decide +kernel) rfl
theorem nX10_32 : aNl RX10 32 9 := ⟨RX8, TX8, 5, rfl, aTs_mem 234 (by decide +kernel) rfl, aTs_mem 235 (by decide +kernel) rfl, aTs_mem 66 (by decide +kernel) rfl⟩
theorem qX8_9 : Cond.classLink RX8 9 "MadeMended$Piece" ∈ aTs := aTs_mem 240 (by decide +kernel) rfl
theorem nX8_9 : aNl RX8 9 6 := ⟨RX5, TX5, 9, rfl, aTs_mem 240 (by decide +kernel) rfl, aTs_mem 574 (by decide +kernel) rfl, aTs_mem 75 (by decide +kernel) rfl⟩
theorem qX10_42 : Cond.classLink RX10 42 "MadeMended$Making" ∈ aTs := aTs_mem 262 (by decide +kernel) rfl
theorem nX10_42 : aNl RX10 42 4 := ⟨RX3, TX3, 4, rfl, aTs_mem 262 (by decide +kernel) rfl, aTs_mem 263 (by decide +kernel) rfl, aTs_mem 67 (by decide +kernel) rfl⟩
theorem qX10_51 : Cond.classLink RX10 51 "MadeMended$LoneTexts" ∈ aTs := aTs_mem 281 (by decide +kernel) rfl
theorem nX10_51 : aNl RX10 51 3 := ⟨RX2, TX2, 2, rfl, aTs_mem 281 (by decide +kernel) rfl, aTs_mem 282 (by decide +kernel) rfl, aTs_mem 68 (by decide +kernel) rfl⟩
theorem qX2_9 : Cond.classLink RX2 9 "java/util/ArrayList" ∈ aTs := aTs_mem 287 (by decide +kernel) rfl
theorem nX2_9 : aNl RX2 9 0 := ⟨RJx4a65c, TJx4a65c, 3, rfl, aTs_mem 287 (by decide +kernel) rfl, aTs_mem 114 (by decide +kernel) rfl, aTs_mem 63 (by decide +kernel) rfl⟩
theorem qX10_87 : Cond.classLink RX10 87 "MadeMended$Thing" ∈ aTs := aTs_mem 354 (by decide +kernel) rfl
theorem nX10_87 : aNl RX10 87 10 := ⟨RX9, TX9, 8, rfl, aTs_mem 354 (by decide +kernel) rfl, aTs_mem 108 (by decide +kernel) rfl, aTs_mem 60 (by decide +kernel) rfl⟩
theorem qJ7_110 : Cond.classLink RJ7 110 "[Ljava/lang/Object;" ∈ aTs := aTs_mem 416 (by decide +kernel) rfl
theorem qJ7_2 : Cond.classLink RJ7 2 "java/lang/Object" ∈ aTs := aTs_mem 418 (by decide +kernel) rfl
theorem qJx4a65c_7 : Cond.classLink RJx4a65c 7 "java/lang/Object" ∈ aTs := aTs_mem 422 (by decide +kernel) rfl
theorem qX3_33 : Cond.classLink RX3 33 "MadeMended$Thing" ∈ aTs := aTs_mem 555 (by decide +kernel) rfl
theorem nX3_33 : aNl RX3 33 10 := ⟨RX9, TX9, 8, rfl, aTs_mem 555 (by decide +kernel) rfl, aTs_mem 108 (by decide +kernel) rfl, aTs_mem 60 (by decide +kernel) rfl⟩
theorem qX2_26 : Cond.classLink RX2 26 "MadeMended$Lone" ∈ aTs := aTs_mem 665 (by decide +kernel) rfl
theorem nX2_26 : aNl RX2 26 2 := ⟨RX1, TX1, 3, rfl, aTs_mem 665 (by decide +kernel) rfl, aTs_mem 666 (by decide +kernel) rfl, aTs_mem 76 (by decide +kernel) rfl⟩
theorem qX10_191 : Cond.classLink RX10 191 "MadeMended$Hand" ∈ aTs := aTs_mem 719 (by decide +kernel) rfl
theorem nX10_191 : aNl RX10 191 1 := ⟨RX0, TX0, 2, rfl, aTs_mem 719 (by decide +kernel) rfl, aTs_mem 720 (by decide +kernel) rfl, aTs_mem 77 (by decide +kernel) rfl⟩
theorem qL_10 : Cond.classLink RL 10 "MadeMendedModel" ∈ aTs := aTs_mem 821 (by decide +kernel) rfl
theorem nL_10 : aNl RL 10 12 := ⟨RX11, TX11, 52, rfl, aTs_mem 821 (by decide +kernel) rfl, aTs_mem 822 (by decide +kernel) rfl, aTs_mem 69 (by decide +kernel) rfl⟩
theorem cJ8_200 : Cond.constant RJ8 200 2147483639 ∈ aTs := aTs_mem 389 (by decide +kernel) rfl
theorem cX10_275 : Cond.constant RX10 275 99999 ∈ aTs := aTs_mem 430 (by decide +kernel) rfl
theorem cX11_98 : Cond.constant RX11 98 60000 ∈ aTs := aTs_mem 827 (by decide +kernel) rfl
theorem cX11_165 : Cond.constant RX11 165 99999 ∈ aTs := aTs_mem 1029 (by decide +kernel) rfl
theorem wJ9_max_7cf53 : Cond.code yJ9_max_7cf53 cJ9_max_7cf53 2 (some .int) ∈ aTs ∧ Cond.static yJ9_max_7cf53 ∈ aTs ∧ Cond.initialized "java/lang/Math" ∈ aTs := ⟨aTs_mem 388 (by decide +kernel) rfl, aTs_mem 387 (by decide +kernel) rfl, aTs_mem 65 (by decide +kernel) rfl⟩
theorem wJ9_min_7cf53 : Cond.code yJ9_min_7cf53 cJ9_min_7cf53 2 (some .int) ∈ aTs ∧ Cond.static yJ9_min_7cf53 ∈ aTs ∧ Cond.initialized "java/lang/Math" ∈ aTs := ⟨aTs_mem 200 (by decide +kernel) rfl, aTs_mem 199 (by decide +kernel) rfl, aTs_mem 65 (by decide +kernel) rfl⟩
theorem ob_1 : Cond.instanceMethod objectInit ∈ aTs := aTs_mem 84 (by decide +kernel) rfl
theorem ob_2 : Cond.code objectInit ⟨#[0xb1]⟩ 1 none ∈ aTs := aTs_mem 85 (by decide +kernel) rfl
theorem ac_1 : Cond.native arraycopyName ∈ aTs := aTs_mem 361 (by decide +kernel) rfl
theorem ac_2 : Cond.static arraycopyName ∈ aTs := aTs_mem 360 (by decide +kernel) rfl
theorem ac_3 : Cond.initialized "java/lang/System" ∈ aTs := aTs_mem 70 (by decide +kernel) rfl
theorem ai_1 : Cond.arrayClass .int ∈ aTs := aTs_mem 100 (by decide +kernel) rfl
end
section
theorem ai_2 : Cond.arrayClass .boolean ∈ aTs := aTs_mem 985 (by decide +kernel) rfl
theorem ao_java_lang_Object : Cond.arrayOver (.object "java/lang/Object") ∈ lw_tbl := List.mem_of_getElem? (i := 417) (by decide +kernel)
theorem ao_MadeMended_Piece : Cond.arrayOver (.object "MadeMended$Piece") ∈ lw_tbl := List.mem_of_getElem? (i := 241) (by decide +kernel)
theorem ao_MadeMended_Rule : Cond.arrayOver (.object "MadeMended$Rule") ∈ lw_tbl := List.mem_of_getElem? (i := 192) (by decide +kernel)
theorem ao_MadeMended_Thing : Cond.arrayOver (.object "MadeMended$Thing") ∈ lw_tbl := List.mem_of_getElem? (i := 178) (by decide +kernel)
theorem cb_X9 : Cond.castable "MadeMended$Thing" "java/lang/Object" ∈ lw_tbl := List.mem_of_getElem? (i := 1215) (by decide +kernel)
theorem cb_X6 : Cond.castable "MadeMended$Rule" "java/lang/Object" ∈ lw_tbl := List.mem_of_getElem? (i := 1216) (by decide +kernel)
theorem cb_X5 : Cond.castable "MadeMended$Piece" "java/lang/Object" ∈ lw_tbl := List.mem_of_getElem? (i := 1217) (by decide +kernel)
theorem cb_X10 : Cond.castable "MadeMended" "java/lang/Object" ∈ lw_tbl := List.mem_of_getElem? (i := 1218) (by decide +kernel)
theorem cb_X7 : Cond.castable "MadeMended$Tape" "java/lang/Object" ∈ lw_tbl := List.mem_of_getElem? (i := 1219) (by decide +kernel)
theorem cb_X4 : Cond.castable "MadeMended$Model" "java/lang/Object" ∈ lw_tbl := List.mem_of_getElem? (i := 1220) (by decide +kernel)
theorem cb_Jx4a65c : Cond.castable "java/util/ArrayList" "java/lang/Object" ∈ lw_tbl := List.mem_of_getElem? (i := 1221) (by decide +kernel)
theorem cb_X8 : Cond.castable "MadeMended$Text" "java/lang/Object" ∈ lw_tbl := List.mem_of_getElem? (i := 1222) (by decide +kernel)
theorem cb_X3 : Cond.castable "MadeMended$Making" "java/lang/Object" ∈ lw_tbl := List.mem_of_getElem? (i := 1223) (by decide +kernel)
theorem cb_X2 : Cond.castable "MadeMended$LoneTexts" "java/lang/Object" ∈ lw_tbl := List.mem_of_getElem? (i := 1224) (by decide +kernel)
theorem cb_X11 : Cond.castable "MadeMendedModel" "java/lang/Object" ∈ lw_tbl := List.mem_of_getElem? (i := 1225) (by decide +kernel)
theorem cb_X1 : Cond.castable "MadeMended$Lone" "java/lang/Object" ∈ lw_tbl := List.mem_of_getElem? (i := 1226) (by decide +kernel)
theorem cb_X0 : Cond.castable "MadeMended$Hand" "java/lang/Object" ∈ lw_tbl := List.mem_of_getElem? (i := 1227) (by decide +kernel)
end
section
section EV
variable {l : Launch} {G : aG} {d mc ms : Nat} {M : aM} {pc : Nat} {ls st : List Value} {h : aH} {Q : Option Value → aH → Prop}
theorem Ev_mmax {idx : Nat} {x y : Int32} (hdg : decode M.2.1 pc = .ok (.invokestatic idx, 3)) (hd : 1 ≤ d) (hst : st.all okv = true) (hlen : st.length ≤ 8) (w1 : Cond.methodLink M.1.cls idx yJ9_max_7cf53 ∈ aTs) (kk : Ev l G d mc ms M (pc + 3) ls (.int (if x < y then y else x) :: st) h Q) : Ev l G d mc ms M pc ls (.int y :: .int x :: st) h Q := by
  intro p e R s m args below meth c H locs cells slots lv C a1 a2 a3 a4 hP hS hl
  have hts := C.2.2.2.2.2.1
  exact va_mmax C.1 C.2.1 (by rw [C.2.2.1]; exact hl.1.symm) C.2.2.2.2.1 (hts _ w1) (hts _ wJ9_max_7cf53.2.1) (hts _ wJ9_max_7cf53.2.2) (hts _ wJ9_max_7cf53.1) (by omega) (by rw [cat_sum G hst]; omega) (by omega) (by omega) hdg (kk p e R s m args below meth c H locs cells slots lv C a1 a2 a3 a4 hP hS hl)
theorem Ev_mmin {idx : Nat} {x y : Int32} (hdg : decode M.2.1 pc = .ok (.invokestatic idx, 3)) (hd : 1 ≤ d) (hst : st.all okv = true) (hlen : st.length ≤ 8) (w1 : Cond.methodLink M.1.cls idx yJ9_min_7cf53 ∈ aTs) (kk : Ev l G d mc ms M (pc + 3) ls (.int (if y < x then y else x) :: st) h Q) : Ev l G d mc ms M pc ls (.int y :: .int x :: st) h Q := by
  intro p e R s m args below meth c H locs cells slots lv C a1 a2 a3 a4 hP hS hl
  have hts := C.2.2.2.2.2.1
  exact va_mmin C.1 C.2.1 (by rw [C.2.2.1]; exact hl.1.symm) C.2.2.2.2.1 (hts _ w1) (hts _ wJ9_min_7cf53.2.1) (hts _ wJ9_min_7cf53.2.2) (hts _ wJ9_min_7cf53.1) (by omega) (by rw [cat_sum G hst]; omega) (by omega) (by omega) hdg (kk p e R s m args below meth c H locs cells slots lv C a1 a2 a3 a4 hP hS hl)
theorem hK_sI (h : aH) (k a : Nat) (v : Int32) : hK (sI h k a v) = hK h := rfl
theorem hL_sI (h : aH) (k a : Nat) (v : Int32) : hL (sI h k a v) = hL h := rfl
end EV
end
section
section EV
variable {l : Launch} {G : aG} {d mc ms : Nat} {M : aM} {pc : Nat} {ls st : List Value} {h : aH} {Q : Option Value → aH → Prop}
theorem Ev_top {x y : Value} (e : x = y) (kk : Ev l G d mc ms M pc ls (y :: st) h Q) : Ev l G d mc ms M pc ls (x :: st) h Q := by
  rw [e]; exact kk
theorem Ev_iaddN {a b : Nat} (hdg : decode M.2.1 pc = .ok (.iadd, 1)) (kk : Ev l G d mc ms M (pc + 1) ls (.int (nI (a + b)) :: st) h Q) : Ev l G d mc ms M pc ls (.int (nI b) :: .int (nI a) :: st) h Q := by
  refine Ev_iadd hdg ?_
  rw [nI_add]; exact kk
theorem Ev_imulN {a b : Nat} (hdg : decode M.2.1 pc = .ok (.imul, 1)) (kk : Ev l G d mc ms M (pc + 1) ls (.int (nI (a * b)) :: st) h Q) : Ev l G d mc ms M pc ls (.int (nI b) :: .int (nI a) :: st) h Q := by
  refine Ev_imul hdg ?_
  rw [pk_mul]; exact kk
theorem Ev_isubN {a b : Nat} (hdg : decode M.2.1 pc = .ok (.isub, 1)) (hb : b ≤ a) (kk : Ev l G d mc ms M (pc + 1) ls (.int (nI (a - b)) :: st) h Q) : Ev l G d mc ms M pc ls (.int (nI b) :: .int (nI a) :: st) h Q := by
  refine Ev_isub hdg ?_
  rw [pk_sub hb]; exact kk
theorem Ev_iincN {k t : Nat} {z : Int} (n : Nat) (hdg : decode M.2.1 pc = .ok (.iinc k z, 3)) (hz : Int32.ofInt z = nI n) (hk : (k : Nat) < M.2.2.1) (hx : ls[k]? = some (.int (nI t))) (kk : Ev l G d mc ms M (pc + 3) (ls.set k (.int (nI (t + n)))) st h Q) : Ev l G d mc ms M pc ls st h Q := by
  exact Ev_iinc hdg hk hx (by rw [hz, nI_add]) kk
theorem Ev_icmp_eqN {a b : Nat} {off : Int} (tgt : Nat) (hdg : decode M.2.1 pc = .ok (.if_icmp .eq off, 3)) (ht : (pc : Int) + off = (tgt : Int)) (ha : a < 2 ^ 31) (hb : b < 2 ^ 31) (kt : a = b → Ev l G d mc ms M tgt ls st h Q) (kf : ¬ a = b → Ev l G d mc ms M (pc + 3) ls st h Q) : Ev l G d mc ms M pc ls (.int (nI b) :: .int (nI a) :: st) h Q := by
  exact Ev_icmp_eq tgt hdg ht (fun z => kt ((nI_eq ha hb).mp z)) (fun z => kf (fun q => z ((nI_eq ha hb).mpr q)))
theorem Ev_icmp_neN {a b : Nat} {off : Int} (tgt : Nat) (hdg : decode M.2.1 pc = .ok (.if_icmp .ne off, 3)) (ht : (pc : Int) + off = (tgt : Int)) (ha : a < 2 ^ 31) (hb : b < 2 ^ 31) (kt : ¬ a = b → Ev l G d mc ms M tgt ls st h Q) (kf : a = b → Ev l G d mc ms M (pc + 3) ls st h Q) : Ev l G d mc ms M pc ls (.int (nI b) :: .int (nI a) :: st) h Q := by
  exact Ev_icmp_ne tgt hdg ht (fun z => kt (fun q => z ((nI_eq ha hb).mpr q))) (fun z => kf ((nI_eq ha hb).mp z))
theorem Ev_icmp_ltN {a b : Nat} {off : Int} (tgt : Nat) (hdg : decode M.2.1 pc = .ok (.if_icmp .lt off, 3)) (ht : (pc : Int) + off = (tgt : Int)) (ha : a < 2 ^ 31) (hb : b < 2 ^ 31) (kt : a < b → Ev l G d mc ms M tgt ls st h Q) (kf : ¬ a < b → Ev l G d mc ms M (pc + 3) ls st h Q) : Ev l G d mc ms M pc ls (.int (nI b) :: .int (nI a) :: st) h Q := by
  exact Ev_icmp_lt tgt hdg ht (fun z => kt ((nI_ltI ha hb).mp z)) (fun z => kf (fun q => z ((nI_ltI ha hb).mpr q)))
theorem Ev_icmp_geN {a b : Nat} {off : Int} (tgt : Nat) (hdg : decode M.2.1 pc = .ok (.if_icmp .ge off, 3)) (ht : (pc : Int) + off = (tgt : Int)) (ha : a < 2 ^ 31) (hb : b < 2 ^ 31) (kt : b ≤ a → Ev l G d mc ms M tgt ls st h Q) (kf : ¬ b ≤ a → Ev l G d mc ms M (pc + 3) ls st h Q) : Ev l G d mc ms M pc ls (.int (nI b) :: .int (nI a) :: st) h Q := by
  exact Ev_icmp_ge tgt hdg ht (fun z => kt ((nI_leI hb ha).mp z)) (fun z => kf (fun q => z ((nI_leI hb ha).mpr q)))
theorem Ev_icmp_gtN {a b : Nat} {off : Int} (tgt : Nat) (hdg : decode M.2.1 pc = .ok (.if_icmp .gt off, 3)) (ht : (pc : Int) + off = (tgt : Int)) (ha : a < 2 ^ 31) (hb : b < 2 ^ 31) (kt : b < a → Ev l G d mc ms M tgt ls st h Q) (kf : ¬ b < a → Ev l G d mc ms M (pc + 3) ls st h Q) : Ev l G d mc ms M pc ls (.int (nI b) :: .int (nI a) :: st) h Q := by
  exact Ev_icmp_gt tgt hdg ht (fun z => kt ((nI_ltI hb ha).mp z)) (fun z => kf (fun q => z ((nI_ltI hb ha).mpr q)))
theorem Ev_icmp_leN {a b : Nat} {off : Int} (tgt : Nat) (hdg : decode M.2.1 pc = .ok (.if_icmp .le off, 3)) (ht : (pc : Int) + off = (tgt : Int)) (ha : a < 2 ^ 31) (hb : b < 2 ^ 31) (kt : a ≤ b → Ev l G d mc ms M tgt ls st h Q) (kf : ¬ a ≤ b → Ev l G d mc ms M (pc + 3) ls st h Q) : Ev l G d mc ms M pc ls (.int (nI b) :: .int (nI a) :: st) h Q := by
  exact Ev_icmp_le tgt hdg ht (fun z => kt ((nI_leI ha hb).mp z)) (fun z => kf (fun q => z ((nI_leI ha hb).mpr q)))
theorem Ev_icmp_eqT {x y : Int32} {off : Int} (tgt : Nat) (hdg : decode M.2.1 pc = .ok (.if_icmp .eq off, 3)) (ht : (pc : Int) + off = (tgt : Int)) (kt : x.toInt = y.toInt → Ev l G d mc ms M tgt ls st h Q) (kf : ¬ x.toInt = y.toInt → Ev l G d mc ms M (pc + 3) ls st h Q) : Ev l G d mc ms M pc ls (.int y :: .int x :: st) h Q := by
  exact Ev_icmp_eq tgt hdg ht (fun z => kt ((Int32.toInt_inj (x := x) (y := y)).mpr z)) (fun z => kf (fun q => z ((Int32.toInt_inj (x := x) (y := y)).mp q)))
theorem Ev_if_eqT {x : Int32} {off : Int} (tgt : Nat) (hdg : decode M.2.1 pc = .ok (.ifCond .eq off, 3)) (ht : (pc : Int) + off = (tgt : Int)) (kt : x.toInt = 0 → Ev l G d mc ms M tgt ls st h Q) (kf : ¬ x.toInt = 0 → Ev l G d mc ms M (pc + 3) ls st h Q) : Ev l G d mc ms M pc ls (.int x :: st) h Q := by
  have e0 : (0 : Int32).toInt = 0 := by decide
  refine Ev_if_eq tgt hdg ht (fun z => kt ?_) (fun z => kf ?_)
  · have := (Int32.toInt_inj (x := x) (y := 0)).mpr z
    rw [e0] at this; exact this
  · have := fun q => z ((Int32.toInt_inj (x := x) (y := 0)).mp q)
    rw [e0] at this; exact this
theorem Ev_icmp_neT {x y : Int32} {off : Int} (tgt : Nat) (hdg : decode M.2.1 pc = .ok (.if_icmp .ne off, 3)) (ht : (pc : Int) + off = (tgt : Int)) (kt : ¬ x.toInt = y.toInt → Ev l G d mc ms M tgt ls st h Q) (kf : x.toInt = y.toInt → Ev l G d mc ms M (pc + 3) ls st h Q) : Ev l G d mc ms M pc ls (.int y :: .int x :: st) h Q := by
  exact Ev_icmp_ne tgt hdg ht (fun z => kt (fun q => z ((Int32.toInt_inj (x := x) (y := y)).mp q))) (fun z => kf ((Int32.toInt_inj (x := x) (y := y)).mpr z))
theorem Ev_if_neT {x : Int32} {off : Int} (tgt : Nat) (hdg : decode M.2.1 pc = .ok (.ifCond .ne off, 3)) (ht : (pc : Int) + off = (tgt : Int)) (kt : ¬ x.toInt = 0 → Ev l G d mc ms M tgt ls st h Q) (kf : x.toInt = 0 → Ev l G d mc ms M (pc + 3) ls st h Q) : Ev l G d mc ms M pc ls (.int x :: st) h Q := by
  have e0 : (0 : Int32).toInt = 0 := by decide
  refine Ev_if_ne tgt hdg ht (fun z => kt ?_) (fun z => kf ?_)
  · have := fun q => z ((Int32.toInt_inj (x := x) (y := 0)).mp q)
    rw [e0] at this; exact this
  · have := (Int32.toInt_inj (x := x) (y := 0)).mpr z
    rw [e0] at this; exact this
theorem Ev_icmp_ltT {x y : Int32} {off : Int} (tgt : Nat) (hdg : decode M.2.1 pc = .ok (.if_icmp .lt off, 3)) (ht : (pc : Int) + off = (tgt : Int)) (kt : x.toInt < y.toInt → Ev l G d mc ms M tgt ls st h Q) (kf : ¬ x.toInt < y.toInt → Ev l G d mc ms M (pc + 3) ls st h Q) : Ev l G d mc ms M pc ls (.int y :: .int x :: st) h Q := by
  exact Ev_icmp_lt tgt hdg ht (fun z => kt (((Int32.lt_iff_toInt_lt (x := x) (y := y)).symm).mpr z)) (fun z => kf (fun q => z (((Int32.lt_iff_toInt_lt (x := x) (y := y)).symm).mp q)))
theorem Ev_if_ltT {x : Int32} {off : Int} (tgt : Nat) (hdg : decode M.2.1 pc = .ok (.ifCond .lt off, 3)) (ht : (pc : Int) + off = (tgt : Int)) (kt : x.toInt < 0 → Ev l G d mc ms M tgt ls st h Q) (kf : ¬ x.toInt < 0 → Ev l G d mc ms M (pc + 3) ls st h Q) : Ev l G d mc ms M pc ls (.int x :: st) h Q := by
  have e0 : (0 : Int32).toInt = 0 := by decide
  refine Ev_if_lt tgt hdg ht (fun z => kt ?_) (fun z => kf ?_)
  · have := ((Int32.lt_iff_toInt_lt (x := x) (y := 0)).symm).mpr z
    rw [e0] at this; exact this
  · have := fun q => z (((Int32.lt_iff_toInt_lt (x := x) (y := 0)).symm).mp q)
    rw [e0] at this; exact this
theorem Ev_icmp_geT {x y : Int32} {off : Int} (tgt : Nat) (hdg : decode M.2.1 pc = .ok (.if_icmp .ge off, 3)) (ht : (pc : Int) + off = (tgt : Int)) (kt : y.toInt ≤ x.toInt → Ev l G d mc ms M tgt ls st h Q) (kf : ¬ y.toInt ≤ x.toInt → Ev l G d mc ms M (pc + 3) ls st h Q) : Ev l G d mc ms M pc ls (.int y :: .int x :: st) h Q := by
  exact Ev_icmp_ge tgt hdg ht (fun z => kt (((Int32.le_iff_toInt_le (x := y) (y := x)).symm).mpr z)) (fun z => kf (fun q => z (((Int32.le_iff_toInt_le (x := y) (y := x)).symm).mp q)))
theorem Ev_if_geT {x : Int32} {off : Int} (tgt : Nat) (hdg : decode M.2.1 pc = .ok (.ifCond .ge off, 3)) (ht : (pc : Int) + off = (tgt : Int)) (kt : 0 ≤ x.toInt → Ev l G d mc ms M tgt ls st h Q) (kf : ¬ 0 ≤ x.toInt → Ev l G d mc ms M (pc + 3) ls st h Q) : Ev l G d mc ms M pc ls (.int x :: st) h Q := by
  have e0 : (0 : Int32).toInt = 0 := by decide
  refine Ev_if_ge tgt hdg ht (fun z => kt ?_) (fun z => kf ?_)
  · have := ((Int32.le_iff_toInt_le (x := 0) (y := x)).symm).mpr z
    rw [e0] at this; exact this
  · have := fun q => z (((Int32.le_iff_toInt_le (x := 0) (y := x)).symm).mp q)
    rw [e0] at this; exact this
theorem Ev_icmp_gtT {x y : Int32} {off : Int} (tgt : Nat) (hdg : decode M.2.1 pc = .ok (.if_icmp .gt off, 3)) (ht : (pc : Int) + off = (tgt : Int)) (kt : y.toInt < x.toInt → Ev l G d mc ms M tgt ls st h Q) (kf : ¬ y.toInt < x.toInt → Ev l G d mc ms M (pc + 3) ls st h Q) : Ev l G d mc ms M pc ls (.int y :: .int x :: st) h Q := by
  exact Ev_icmp_gt tgt hdg ht (fun z => kt (((Int32.lt_iff_toInt_lt (x := y) (y := x)).symm).mpr z)) (fun z => kf (fun q => z (((Int32.lt_iff_toInt_lt (x := y) (y := x)).symm).mp q)))
theorem Ev_if_gtT {x : Int32} {off : Int} (tgt : Nat) (hdg : decode M.2.1 pc = .ok (.ifCond .gt off, 3)) (ht : (pc : Int) + off = (tgt : Int)) (kt : 0 < x.toInt → Ev l G d mc ms M tgt ls st h Q) (kf : ¬ 0 < x.toInt → Ev l G d mc ms M (pc + 3) ls st h Q) : Ev l G d mc ms M pc ls (.int x :: st) h Q := by
  have e0 : (0 : Int32).toInt = 0 := by decide
  refine Ev_if_gt tgt hdg ht (fun z => kt ?_) (fun z => kf ?_)
  · have := ((Int32.lt_iff_toInt_lt (x := 0) (y := x)).symm).mpr z
    rw [e0] at this; exact this
  · have := fun q => z (((Int32.lt_iff_toInt_lt (x := 0) (y := x)).symm).mp q)
    rw [e0] at this; exact this
theorem Ev_icmp_leT {x y : Int32} {off : Int} (tgt : Nat) (hdg : decode M.2.1 pc = .ok (.if_icmp .le off, 3)) (ht : (pc : Int) + off = (tgt : Int)) (kt : x.toInt ≤ y.toInt → Ev l G d mc ms M tgt ls st h Q) (kf : ¬ x.toInt ≤ y.toInt → Ev l G d mc ms M (pc + 3) ls st h Q) : Ev l G d mc ms M pc ls (.int y :: .int x :: st) h Q := by
  exact Ev_icmp_le tgt hdg ht (fun z => kt (((Int32.le_iff_toInt_le (x := x) (y := y)).symm).mpr z)) (fun z => kf (fun q => z (((Int32.le_iff_toInt_le (x := x) (y := y)).symm).mp q)))
theorem Ev_if_leT {x : Int32} {off : Int} (tgt : Nat) (hdg : decode M.2.1 pc = .ok (.ifCond .le off, 3)) (ht : (pc : Int) + off = (tgt : Int)) (kt : x.toInt ≤ 0 → Ev l G d mc ms M tgt ls st h Q) (kf : ¬ x.toInt ≤ 0 → Ev l G d mc ms M (pc + 3) ls st h Q) : Ev l G d mc ms M pc ls (.int x :: st) h Q := by
  have e0 : (0 : Int32).toInt = 0 := by decide
  refine Ev_if_le tgt hdg ht (fun z => kt ?_) (fun z => kf ?_)
  · have := ((Int32.le_iff_toInt_le (x := x) (y := 0)).symm).mpr z
    rw [e0] at this; exact this
  · have := fun q => z (((Int32.le_iff_toInt_le (x := x) (y := 0)).symm).mp q)
    rw [e0] at this; exact this
theorem Ev_getA {idx ci j f a b : Nat} (hdg : decode M.2.1 pc = .ok (.getfield idx, 3)) (hf : aFl M.1.cls idx ci j f true) (hk : hK h a = ci) (hb : hR h f a = some b) (kk : Ev l G d mc ms M (pc + 3) ls (.ref b :: st) h Q) : Ev l G d mc ms M pc ls (.ref a :: st) h Q := by
  refine Ev_getR hdg hf hk ?_
  rw [hb]; exact kk
theorem Ev_getE {idx ci j f a : Nat} {x : Int32} (hdg : decode M.2.1 pc = .ok (.getfield idx, 3)) (hf : aFl M.1.cls idx ci j f false) (hk : hK h a = ci) (hb : hI h f a = x) (kk : Ev l G d mc ms M (pc + 3) ls (.int x :: st) h Q) : Ev l G d mc ms M pc ls (.ref a :: st) h Q := by
  refine Ev_getI hdg hf hk ?_
  rw [hb]; exact kk
theorem Ev_ialdL {i : Int32} {a n : Nat} (j : Nat) (hdg : decode M.2.1 pc = .ok (.iaload, 1)) (hk : hK h a = 13) (hn : hL h a = n) (hi : i.toInt = (j : Int)) (hj : j < n) (kk : Ev l G d mc ms M (pc + 1) ls (.int (hX h a j) :: st) h Q) : Ev l G d mc ms M pc ls (.int i :: .ref a :: st) h Q := by
  exact Ev_iald j hdg hk hi (by rw [hn]; exact hj) kk
theorem Ev_zaldL {i : Int32} {a n : Nat} (j : Nat) (hdg : decode M.2.1 pc = .ok (.baload, 1)) (hk : hK h a = 14) (hn : hL h a = n) (hi : i.toInt = (j : Int)) (hj : j < n) (kk : Ev l G d mc ms M (pc + 1) ls (.int (hX h a j) :: st) h Q) : Ev l G d mc ms M pc ls (.int i :: .ref a :: st) h Q := by
  exact Ev_zald j hdg hk hi (by rw [hn]; exact hj) kk
theorem Ev_iastL {i x : Int32} {a n : Nat} (j : Nat) (hdg : decode M.2.1 pc = .ok (.iastore, 1)) (hk : hK h a = 13) (hn : hL h a = n) (hi : i.toInt = (j : Int)) (hj : j < n) (kk : Ev l G d mc ms M (pc + 1) ls st (sX h a j x) Q) : Ev l G d mc ms M pc ls (.int x :: .int i :: .ref a :: st) h Q := by
  exact Ev_iast j hdg hk hi (by rw [hn]; exact hj) kk
theorem Ev_zastL {i x : Int32} {a n : Nat} (j : Nat) (hdg : decode M.2.1 pc = .ok (.bastore, 1)) (hk : hK h a = 14) (hn : hL h a = n) (hx : x = 0 ∨ x = 1) (hi : i.toInt = (j : Int)) (hj : j < n) (kk : Ev l G d mc ms M (pc + 1) ls st (sX h a j x) Q) : Ev l G d mc ms M pc ls (.int x :: .int i :: .ref a :: st) h Q := by
  exact Ev_zast j hdg hk hx hi (by rw [hn]; exact hj) kk
theorem hi_n {n : Nat} (h : n < 2 ^ 31) : (nI n).toInt = (n : Int) := nI_toInt h
end EV
end
section
abbrev MO : Nat := 28
abbrev a_came : Nat := 29
abbrev a_kind : Nat := 30
abbrev a_parent : Nat := 31
abbrev a_place : Nat := 32
abbrev a_number : Nat := 33
abbrev a_name : Nat := 34
abbrev a_named : Nat := 35
abbrev a_items : Nat := 36
abbrev a_sort : Nat := 37
abbrev a_one : Nat := 38
abbrev a_two : Nat := 39
abbrev a_ruleBytes : Nat := 40
abbrev a_tape : Nat := 41
abbrev a_pieces : Nat := 42
abbrev a_item : Nat := 43
abbrev a_pieceSort : Nat := 44
abbrev a_pieceKind : Nat := 45
abbrev a_pieceNumber : Nat := 46
abbrev a_deep : Nat := 47
abbrev a_way : Nat := 48
abbrev a_thingOf : Nat := 49
abbrev a_madeFrom : Nat := 50
abbrev a_madeLong : Nat := 51
abbrev a_bytes : Nat := 52
abbrev a_handLong : Nat := 53
abbrev a_hand : Nat := 54
abbrev a_baseLong : Nat := 55
abbrev a_base : Nat := 56
abbrev a_clash : Nat := 57
abbrev a_useThing : Nat := 58
abbrev a_useItem : Nat := 59
abbrev a_useChild : Nat := 60
abbrev a_isLeft : Nat := 61
abbrev a_loneSort : Nat := 62
abbrev a_loneItem : Nat := 63
abbrev a_loneLong : Nat := 64
abbrev a_lone : Nat := 65
abbrev i_things : Nat := 768
abbrev i_comings : Nat := 770
abbrev i_fault : Nat := 782
abbrev i_faultPlace : Nat := 783
abbrev i_taped : Nat := 785
abbrev i_at : Nat := 786
abbrev i_read : Nat := 787
abbrev i_within : Nat := 788
abbrev i_written : Nat := 800
abbrev i_open : Nat := 810
abbrev i_uses : Nat := 811
abbrev i_full : Nat := 812
abbrev i_lones : Nat := 813
abbrev i_fallen : Nat := 818
abbrev i_placed : Nat := 819
def rfL : List (Nat × Nat × Nat × Nat) := [(769, 29, 13, 24), (771, 30, 13, 24), (772, 31, 13, 24), (773, 32, 13, 24), (774, 33, 13, 96), (775, 34, 13, 144), (776, 35, 13, 24), (777, 36, 13, 9), (778, 37, 13, 180), (779, 38, 13, 180), (780, 39, 13, 180), (781, 40, 13, 1080), (784, 41, 13, 120), (789, 42, 13, 2), (790, 43, 13, 500), (791, 44, 13, 500), (792, 45, 13, 500), (793, 46, 13, 500), (794, 47, 13, 500), (795, 48, 13, 6000), (796, 49, 13, 500), (797, 50, 13, 500), (798, 51, 13, 500), (799, 52, 13, 6000), (801, 53, 13, 500), (802, 54, 13, 30000), (803, 55, 13, 500), (804, 56, 13, 60000), (805, 57, 14, 500), (806, 58, 13, 6), (807, 59, 13, 6), (808, 60, 13, 6), (809, 61, 14, 6), (814, 62, 13, 30), (815, 63, 13, 30), (816, 64, 13, 30), (817, 65, 13, 1800)]
def Rf (h : aH) : Prop := hK h MO = 12 ∧ ∀ q ∈ rfL, hR h q.1 MO = some q.2.1 ∧ hK h q.2.1 = q.2.2.1 ∧ hL h q.2.1 = q.2.2.2
theorem Rf.of {h h' : aH} (r : Rf h) (e1 : hK h' = hK h) (e2 : hR h' = hR h) (e3 : hL h' = hL h) : Rf h' := by
  unfold Rf
  rw [e1, e2, e3]
  exact r
theorem rr_came {h : aH} (r : Rf h) : hR h 769 MO = some 29 := (r.2 (769, 29, 13, 24) (by decide)).1
theorem rk_came {h : aH} (r : Rf h) : hK h 29 = 13 := (r.2 (769, 29, 13, 24) (by decide)).2.1
theorem rl_came {h : aH} (r : Rf h) : hL h 29 = 24 := (r.2 (769, 29, 13, 24) (by decide)).2.2
theorem rr_kind {h : aH} (r : Rf h) : hR h 771 MO = some 30 := (r.2 (771, 30, 13, 24) (by decide)).1
theorem rk_kind {h : aH} (r : Rf h) : hK h 30 = 13 := (r.2 (771, 30, 13, 24) (by decide)).2.1
theorem rl_kind {h : aH} (r : Rf h) : hL h 30 = 24 := (r.2 (771, 30, 13, 24) (by decide)).2.2
theorem rr_parent {h : aH} (r : Rf h) : hR h 772 MO = some 31 := (r.2 (772, 31, 13, 24) (by decide)).1
theorem rk_parent {h : aH} (r : Rf h) : hK h 31 = 13 := (r.2 (772, 31, 13, 24) (by decide)).2.1
theorem rl_parent {h : aH} (r : Rf h) : hL h 31 = 24 := (r.2 (772, 31, 13, 24) (by decide)).2.2
theorem rr_place {h : aH} (r : Rf h) : hR h 773 MO = some 32 := (r.2 (773, 32, 13, 24) (by decide)).1
theorem rk_place {h : aH} (r : Rf h) : hK h 32 = 13 := (r.2 (773, 32, 13, 24) (by decide)).2.1
theorem rl_place {h : aH} (r : Rf h) : hL h 32 = 24 := (r.2 (773, 32, 13, 24) (by decide)).2.2
theorem rr_number {h : aH} (r : Rf h) : hR h 774 MO = some 33 := (r.2 (774, 33, 13, 96) (by decide)).1
theorem rk_number {h : aH} (r : Rf h) : hK h 33 = 13 := (r.2 (774, 33, 13, 96) (by decide)).2.1
theorem rl_number {h : aH} (r : Rf h) : hL h 33 = 96 := (r.2 (774, 33, 13, 96) (by decide)).2.2
theorem rr_name {h : aH} (r : Rf h) : hR h 775 MO = some 34 := (r.2 (775, 34, 13, 144) (by decide)).1
theorem rk_name {h : aH} (r : Rf h) : hK h 34 = 13 := (r.2 (775, 34, 13, 144) (by decide)).2.1
theorem rl_name {h : aH} (r : Rf h) : hL h 34 = 144 := (r.2 (775, 34, 13, 144) (by decide)).2.2
theorem rr_named {h : aH} (r : Rf h) : hR h 776 MO = some 35 := (r.2 (776, 35, 13, 24) (by decide)).1
theorem rk_named {h : aH} (r : Rf h) : hK h 35 = 13 := (r.2 (776, 35, 13, 24) (by decide)).2.1
theorem rl_named {h : aH} (r : Rf h) : hL h 35 = 24 := (r.2 (776, 35, 13, 24) (by decide)).2.2
theorem rr_items {h : aH} (r : Rf h) : hR h 777 MO = some 36 := (r.2 (777, 36, 13, 9) (by decide)).1
theorem rk_items {h : aH} (r : Rf h) : hK h 36 = 13 := (r.2 (777, 36, 13, 9) (by decide)).2.1
theorem rl_items {h : aH} (r : Rf h) : hL h 36 = 9 := (r.2 (777, 36, 13, 9) (by decide)).2.2
theorem rr_sort {h : aH} (r : Rf h) : hR h 778 MO = some 37 := (r.2 (778, 37, 13, 180) (by decide)).1
theorem rk_sort {h : aH} (r : Rf h) : hK h 37 = 13 := (r.2 (778, 37, 13, 180) (by decide)).2.1
theorem rl_sort {h : aH} (r : Rf h) : hL h 37 = 180 := (r.2 (778, 37, 13, 180) (by decide)).2.2
theorem rr_one {h : aH} (r : Rf h) : hR h 779 MO = some 38 := (r.2 (779, 38, 13, 180) (by decide)).1
theorem rk_one {h : aH} (r : Rf h) : hK h 38 = 13 := (r.2 (779, 38, 13, 180) (by decide)).2.1
theorem rl_one {h : aH} (r : Rf h) : hL h 38 = 180 := (r.2 (779, 38, 13, 180) (by decide)).2.2
theorem rr_two {h : aH} (r : Rf h) : hR h 780 MO = some 39 := (r.2 (780, 39, 13, 180) (by decide)).1
theorem rk_two {h : aH} (r : Rf h) : hK h 39 = 13 := (r.2 (780, 39, 13, 180) (by decide)).2.1
theorem rl_two {h : aH} (r : Rf h) : hL h 39 = 180 := (r.2 (780, 39, 13, 180) (by decide)).2.2
theorem rr_ruleBytes {h : aH} (r : Rf h) : hR h 781 MO = some 40 := (r.2 (781, 40, 13, 1080) (by decide)).1
theorem rk_ruleBytes {h : aH} (r : Rf h) : hK h 40 = 13 := (r.2 (781, 40, 13, 1080) (by decide)).2.1
theorem rl_ruleBytes {h : aH} (r : Rf h) : hL h 40 = 1080 := (r.2 (781, 40, 13, 1080) (by decide)).2.2
theorem rr_tape {h : aH} (r : Rf h) : hR h 784 MO = some 41 := (r.2 (784, 41, 13, 120) (by decide)).1
theorem rk_tape {h : aH} (r : Rf h) : hK h 41 = 13 := (r.2 (784, 41, 13, 120) (by decide)).2.1
theorem rl_tape {h : aH} (r : Rf h) : hL h 41 = 120 := (r.2 (784, 41, 13, 120) (by decide)).2.2
theorem rr_pieces {h : aH} (r : Rf h) : hR h 789 MO = some 42 := (r.2 (789, 42, 13, 2) (by decide)).1
theorem rk_pieces {h : aH} (r : Rf h) : hK h 42 = 13 := (r.2 (789, 42, 13, 2) (by decide)).2.1
theorem rl_pieces {h : aH} (r : Rf h) : hL h 42 = 2 := (r.2 (789, 42, 13, 2) (by decide)).2.2
theorem rr_item {h : aH} (r : Rf h) : hR h 790 MO = some 43 := (r.2 (790, 43, 13, 500) (by decide)).1
theorem rk_item {h : aH} (r : Rf h) : hK h 43 = 13 := (r.2 (790, 43, 13, 500) (by decide)).2.1
theorem rl_item {h : aH} (r : Rf h) : hL h 43 = 500 := (r.2 (790, 43, 13, 500) (by decide)).2.2
theorem rr_pieceSort {h : aH} (r : Rf h) : hR h 791 MO = some 44 := (r.2 (791, 44, 13, 500) (by decide)).1
theorem rk_pieceSort {h : aH} (r : Rf h) : hK h 44 = 13 := (r.2 (791, 44, 13, 500) (by decide)).2.1
theorem rl_pieceSort {h : aH} (r : Rf h) : hL h 44 = 500 := (r.2 (791, 44, 13, 500) (by decide)).2.2
theorem rr_pieceKind {h : aH} (r : Rf h) : hR h 792 MO = some 45 := (r.2 (792, 45, 13, 500) (by decide)).1
theorem rk_pieceKind {h : aH} (r : Rf h) : hK h 45 = 13 := (r.2 (792, 45, 13, 500) (by decide)).2.1
theorem rl_pieceKind {h : aH} (r : Rf h) : hL h 45 = 500 := (r.2 (792, 45, 13, 500) (by decide)).2.2
theorem rr_pieceNumber {h : aH} (r : Rf h) : hR h 793 MO = some 46 := (r.2 (793, 46, 13, 500) (by decide)).1
theorem rk_pieceNumber {h : aH} (r : Rf h) : hK h 46 = 13 := (r.2 (793, 46, 13, 500) (by decide)).2.1
theorem rl_pieceNumber {h : aH} (r : Rf h) : hL h 46 = 500 := (r.2 (793, 46, 13, 500) (by decide)).2.2
theorem rr_deep {h : aH} (r : Rf h) : hR h 794 MO = some 47 := (r.2 (794, 47, 13, 500) (by decide)).1
theorem rk_deep {h : aH} (r : Rf h) : hK h 47 = 13 := (r.2 (794, 47, 13, 500) (by decide)).2.1
theorem rl_deep {h : aH} (r : Rf h) : hL h 47 = 500 := (r.2 (794, 47, 13, 500) (by decide)).2.2
theorem rr_way {h : aH} (r : Rf h) : hR h 795 MO = some 48 := (r.2 (795, 48, 13, 6000) (by decide)).1
theorem rk_way {h : aH} (r : Rf h) : hK h 48 = 13 := (r.2 (795, 48, 13, 6000) (by decide)).2.1
theorem rl_way {h : aH} (r : Rf h) : hL h 48 = 6000 := (r.2 (795, 48, 13, 6000) (by decide)).2.2
theorem rr_thingOf {h : aH} (r : Rf h) : hR h 796 MO = some 49 := (r.2 (796, 49, 13, 500) (by decide)).1
theorem rk_thingOf {h : aH} (r : Rf h) : hK h 49 = 13 := (r.2 (796, 49, 13, 500) (by decide)).2.1
theorem rl_thingOf {h : aH} (r : Rf h) : hL h 49 = 500 := (r.2 (796, 49, 13, 500) (by decide)).2.2
theorem rr_madeFrom {h : aH} (r : Rf h) : hR h 797 MO = some 50 := (r.2 (797, 50, 13, 500) (by decide)).1
theorem rk_madeFrom {h : aH} (r : Rf h) : hK h 50 = 13 := (r.2 (797, 50, 13, 500) (by decide)).2.1
theorem rl_madeFrom {h : aH} (r : Rf h) : hL h 50 = 500 := (r.2 (797, 50, 13, 500) (by decide)).2.2
theorem rr_madeLong {h : aH} (r : Rf h) : hR h 798 MO = some 51 := (r.2 (798, 51, 13, 500) (by decide)).1
theorem rk_madeLong {h : aH} (r : Rf h) : hK h 51 = 13 := (r.2 (798, 51, 13, 500) (by decide)).2.1
theorem rl_madeLong {h : aH} (r : Rf h) : hL h 51 = 500 := (r.2 (798, 51, 13, 500) (by decide)).2.2
theorem rr_bytes {h : aH} (r : Rf h) : hR h 799 MO = some 52 := (r.2 (799, 52, 13, 6000) (by decide)).1
theorem rk_bytes {h : aH} (r : Rf h) : hK h 52 = 13 := (r.2 (799, 52, 13, 6000) (by decide)).2.1
theorem rl_bytes {h : aH} (r : Rf h) : hL h 52 = 6000 := (r.2 (799, 52, 13, 6000) (by decide)).2.2
theorem rr_handLong {h : aH} (r : Rf h) : hR h 801 MO = some 53 := (r.2 (801, 53, 13, 500) (by decide)).1
theorem rk_handLong {h : aH} (r : Rf h) : hK h 53 = 13 := (r.2 (801, 53, 13, 500) (by decide)).2.1
theorem rl_handLong {h : aH} (r : Rf h) : hL h 53 = 500 := (r.2 (801, 53, 13, 500) (by decide)).2.2
theorem rr_hand {h : aH} (r : Rf h) : hR h 802 MO = some 54 := (r.2 (802, 54, 13, 30000) (by decide)).1
theorem rk_hand {h : aH} (r : Rf h) : hK h 54 = 13 := (r.2 (802, 54, 13, 30000) (by decide)).2.1
theorem rl_hand {h : aH} (r : Rf h) : hL h 54 = 30000 := (r.2 (802, 54, 13, 30000) (by decide)).2.2
theorem rr_baseLong {h : aH} (r : Rf h) : hR h 803 MO = some 55 := (r.2 (803, 55, 13, 500) (by decide)).1
theorem rk_baseLong {h : aH} (r : Rf h) : hK h 55 = 13 := (r.2 (803, 55, 13, 500) (by decide)).2.1
theorem rl_baseLong {h : aH} (r : Rf h) : hL h 55 = 500 := (r.2 (803, 55, 13, 500) (by decide)).2.2
theorem rr_base {h : aH} (r : Rf h) : hR h 804 MO = some 56 := (r.2 (804, 56, 13, 60000) (by decide)).1
theorem rk_base {h : aH} (r : Rf h) : hK h 56 = 13 := (r.2 (804, 56, 13, 60000) (by decide)).2.1
theorem rl_base {h : aH} (r : Rf h) : hL h 56 = 60000 := (r.2 (804, 56, 13, 60000) (by decide)).2.2
theorem rr_clash {h : aH} (r : Rf h) : hR h 805 MO = some 57 := (r.2 (805, 57, 14, 500) (by decide)).1
theorem rk_clash {h : aH} (r : Rf h) : hK h 57 = 14 := (r.2 (805, 57, 14, 500) (by decide)).2.1
theorem rl_clash {h : aH} (r : Rf h) : hL h 57 = 500 := (r.2 (805, 57, 14, 500) (by decide)).2.2
theorem rr_useThing {h : aH} (r : Rf h) : hR h 806 MO = some 58 := (r.2 (806, 58, 13, 6) (by decide)).1
theorem rk_useThing {h : aH} (r : Rf h) : hK h 58 = 13 := (r.2 (806, 58, 13, 6) (by decide)).2.1
theorem rl_useThing {h : aH} (r : Rf h) : hL h 58 = 6 := (r.2 (806, 58, 13, 6) (by decide)).2.2
theorem rr_useItem {h : aH} (r : Rf h) : hR h 807 MO = some 59 := (r.2 (807, 59, 13, 6) (by decide)).1
theorem rk_useItem {h : aH} (r : Rf h) : hK h 59 = 13 := (r.2 (807, 59, 13, 6) (by decide)).2.1
theorem rl_useItem {h : aH} (r : Rf h) : hL h 59 = 6 := (r.2 (807, 59, 13, 6) (by decide)).2.2
theorem rr_useChild {h : aH} (r : Rf h) : hR h 808 MO = some 60 := (r.2 (808, 60, 13, 6) (by decide)).1
theorem rk_useChild {h : aH} (r : Rf h) : hK h 60 = 13 := (r.2 (808, 60, 13, 6) (by decide)).2.1
theorem rl_useChild {h : aH} (r : Rf h) : hL h 60 = 6 := (r.2 (808, 60, 13, 6) (by decide)).2.2
theorem rr_isLeft {h : aH} (r : Rf h) : hR h 809 MO = some 61 := (r.2 (809, 61, 14, 6) (by decide)).1
theorem rk_isLeft {h : aH} (r : Rf h) : hK h 61 = 14 := (r.2 (809, 61, 14, 6) (by decide)).2.1
theorem rl_isLeft {h : aH} (r : Rf h) : hL h 61 = 6 := (r.2 (809, 61, 14, 6) (by decide)).2.2
theorem rr_loneSort {h : aH} (r : Rf h) : hR h 814 MO = some 62 := (r.2 (814, 62, 13, 30) (by decide)).1
theorem rk_loneSort {h : aH} (r : Rf h) : hK h 62 = 13 := (r.2 (814, 62, 13, 30) (by decide)).2.1
theorem rl_loneSort {h : aH} (r : Rf h) : hL h 62 = 30 := (r.2 (814, 62, 13, 30) (by decide)).2.2
theorem rr_loneItem {h : aH} (r : Rf h) : hR h 815 MO = some 63 := (r.2 (815, 63, 13, 30) (by decide)).1
theorem rk_loneItem {h : aH} (r : Rf h) : hK h 63 = 13 := (r.2 (815, 63, 13, 30) (by decide)).2.1
theorem rl_loneItem {h : aH} (r : Rf h) : hL h 63 = 30 := (r.2 (815, 63, 13, 30) (by decide)).2.2
theorem rr_loneLong {h : aH} (r : Rf h) : hR h 816 MO = some 64 := (r.2 (816, 64, 13, 30) (by decide)).1
theorem rk_loneLong {h : aH} (r : Rf h) : hK h 64 = 13 := (r.2 (816, 64, 13, 30) (by decide)).2.1
theorem rl_loneLong {h : aH} (r : Rf h) : hL h 64 = 30 := (r.2 (816, 64, 13, 30) (by decide)).2.2
theorem rr_lone {h : aH} (r : Rf h) : hR h 817 MO = some 65 := (r.2 (817, 65, 13, 1800) (by decide)).1
theorem rk_lone {h : aH} (r : Rf h) : hK h 65 = 13 := (r.2 (817, 65, 13, 1800) (by decide)).2.1
theorem rl_lone {h : aH} (r : Rf h) : hL h 65 = 1800 := (r.2 (817, 65, 13, 1800) (by decide)).2.2
end
section
/-- the answer and the heap, exactly -/
def Ex (r : Option Value) (h1 : aH) : Option Value → aH → Prop := fun v h' => v = r ∧ h' = h1
theorem Ev.lift {l : Launch} {G : aG} {d k mc ms mc1 ms1 : Nat} {M : aM} {pc : Nat} {ls st : List Value} {h : aH} {Q : Option Value → aH → Prop} (hd : k ≤ d) (e1 : mc1 ≤ mc) (e2 : ms1 ≤ ms) (hC : Ev l G k mc1 ms1 M pc ls st h Q) : Ev l G d mc ms M pc ls st h Q := Ev.deep hd (Ev.wide e1 e2 hC)
section EV
variable {l : Launch} {G : aG} {d mc ms : Nat} {M : aM} {pc : Nat} {ls st : List Value} {h : aH} {Q : Option Value → aH → Prop}
variable {k mc1 ms1 mc2 ms2 idx n : Nat} {Mc : aM} {Q' : Option Value → aH → Prop}
theorem Ev.ex {r : Option Value} {h1 : aH} (hC : Ev l G d mc ms M pc ls st h (Ex r h1)) (hq : Q r h1) : Ev l G d mc ms M pc ls st h Q := Ev.post (fun v h' e => by obtain ⟨rfl, rfl⟩ := e; exact hq) hC
theorem Ev_Vg {a ci : Nat} (avs : List Value) (hdg : decode M.2.1 pc = .ok (.invokevirtual idx, 3)) (hv : aVm Mc n ci) (w1 : Cond.methodLink M.1.cls idx Mc.1 ∈ aTs) (hk : hK h a = ci) (hn : avs.length = n) (hok : avs.all okv = true) (hst : st.all okv = true) (hlen : st.length ≤ 8) (hd : k < d) (e1 : mc1 + mc2 ≤ mc) (e2 : ms1 + ms2 ≤ ms) (hC : Ev l G k mc1 ms1 Mc 0 (en Mc.2.2.1 (.ref a :: avs)) [] h Q') (kk : ∀ v h', Q' v h' → Ev l G d mc2 ms2 M (pc + 3) ls (v.toList ++ st) h' Q) : Ev l G d mc ms M pc ls (avs.reverse ++ .ref a :: st) h Q := by
  obtain ⟨d', rfl⟩ : ∃ d', d = d' + 1 := ⟨d - 1, by omega⟩
  exact Ev.wide e1 e2 (Ev_V avs hdg hv w1 hk hn hok hst hlen (Ev.deep (by omega) hC) kk)
theorem Ev_V0 {r : Option Value} {h1 : aH} {a ci : Nat} (avs : List Value) (hdg : decode M.2.1 pc = .ok (.invokevirtual idx, 3)) (hv : aVm Mc n ci) (w1 : Cond.methodLink M.1.cls idx Mc.1 ∈ aTs) (hk : hK h a = ci) (hn : avs.length = n) (hok : avs.all okv = true) (hst : st.all okv = true) (hlen : st.length ≤ 8) (hd : k < d) (hC : Ev l G k 0 0 Mc 0 (en Mc.2.2.1 (.ref a :: avs)) [] h (Ex r h1)) (kk : Ev l G d mc ms M (pc + 3) ls (r.toList ++ st) h1 Q) : Ev l G d mc ms M pc ls (avs.reverse ++ .ref a :: st) h Q :=
  Ev_Vg avs hdg hv w1 hk hn hok hst hlen hd (Nat.le_of_eq (Nat.zero_add _)) (Nat.le_of_eq (Nat.zero_add _)) hC (fun v h' e => by obtain ⟨rfl, rfl⟩ := e; exact kk)
theorem Ev_Sg  (avs : List Value) (hdg : decode M.2.1 pc = .ok (.invokestatic idx, 3)) (hv : aSm Mc n) (w1 : Cond.methodLink M.1.cls idx Mc.1 ∈ aTs) (hn : avs.length = n) (hok : avs.all okv = true) (hst : st.all okv = true) (hlen : st.length ≤ 8) (hd : k < d) (e1 : mc1 + mc2 ≤ mc) (e2 : ms1 + ms2 ≤ ms) (hC : Ev l G k mc1 ms1 Mc 0 (en Mc.2.2.1 (avs)) [] h Q') (kk : ∀ v h', Q' v h' → Ev l G d mc2 ms2 M (pc + 3) ls (v.toList ++ st) h' Q) : Ev l G d mc ms M pc ls (avs.reverse ++ st) h Q := by
  obtain ⟨d', rfl⟩ : ∃ d', d = d' + 1 := ⟨d - 1, by omega⟩
  exact Ev.wide e1 e2 (Ev_S avs hdg hv w1 hn hok hst hlen (Ev.deep (by omega) hC) kk)
theorem Ev_S0 {r : Option Value} {h1 : aH}  (avs : List Value) (hdg : decode M.2.1 pc = .ok (.invokestatic idx, 3)) (hv : aSm Mc n) (w1 : Cond.methodLink M.1.cls idx Mc.1 ∈ aTs) (hn : avs.length = n) (hok : avs.all okv = true) (hst : st.all okv = true) (hlen : st.length ≤ 8) (hd : k < d) (hC : Ev l G k 0 0 Mc 0 (en Mc.2.2.1 (avs)) [] h (Ex r h1)) (kk : Ev l G d mc ms M (pc + 3) ls (r.toList ++ st) h1 Q) : Ev l G d mc ms M pc ls (avs.reverse ++ st) h Q :=
  Ev_Sg avs hdg hv w1 hn hok hst hlen hd (Nat.le_of_eq (Nat.zero_add _)) (Nat.le_of_eq (Nat.zero_add _)) hC (fun v h' e => by obtain ⟨rfl, rfl⟩ := e; exact kk)
theorem Ev_SNg {host : String} (avs : List Value) (hdg : decode M.2.1 pc = .ok (.invokestatic idx, 3)) (hv : aSm Mc n) (w1 : Cond.methodLinkNest M.1.cls idx Mc.1 host ∈ lw_tbl) (hn : avs.length = n) (hok : avs.all okv = true) (hst : st.all okv = true) (hlen : st.length ≤ 8) (hd : k < d) (e1 : mc1 + mc2 ≤ mc) (e2 : ms1 + ms2 ≤ ms) (hC : Ev l G k mc1 ms1 Mc 0 (en Mc.2.2.1 (avs)) [] h Q') (kk : ∀ v h', Q' v h' → Ev l G d mc2 ms2 M (pc + 3) ls (v.toList ++ st) h' Q) : Ev l G d mc ms M pc ls (avs.reverse ++ st) h Q := by
  obtain ⟨d', rfl⟩ : ∃ d', d = d' + 1 := ⟨d - 1, by omega⟩
  exact Ev.wide e1 e2 (Ev_SN avs hdg hv w1 hn hok hst hlen (Ev.deep (by omega) hC) kk)
theorem Ev_SN0 {r : Option Value} {h1 : aH} {host : String} (avs : List Value) (hdg : decode M.2.1 pc = .ok (.invokestatic idx, 3)) (hv : aSm Mc n) (w1 : Cond.methodLinkNest M.1.cls idx Mc.1 host ∈ lw_tbl) (hn : avs.length = n) (hok : avs.all okv = true) (hst : st.all okv = true) (hlen : st.length ≤ 8) (hd : k < d) (hC : Ev l G k 0 0 Mc 0 (en Mc.2.2.1 (avs)) [] h (Ex r h1)) (kk : Ev l G d mc ms M (pc + 3) ls (r.toList ++ st) h1 Q) : Ev l G d mc ms M pc ls (avs.reverse ++ st) h Q :=
  Ev_SNg avs hdg hv w1 hn hok hst hlen hd (Nat.le_of_eq (Nat.zero_add _)) (Nat.le_of_eq (Nat.zero_add _)) hC (fun v h' e => by obtain ⟨rfl, rfl⟩ := e; exact kk)
theorem Ev_Ig {a : Nat} (avs : List Value) (hdg : decode M.2.1 pc = .ok (.invokespecial idx, 3)) (hv : aIm Mc n) (w1 : Cond.methodLink M.1.cls idx Mc.1 ∈ aTs) (hn : avs.length = n) (hok : avs.all okv = true) (hst : st.all okv = true) (hlen : st.length ≤ 8) (hd : k < d) (e1 : mc1 + mc2 ≤ mc) (e2 : ms1 + ms2 ≤ ms) (hC : Ev l G k mc1 ms1 Mc 0 (en Mc.2.2.1 (.ref a :: avs)) [] h Q') (kk : ∀ v h', Q' v h' → Ev l G d mc2 ms2 M (pc + 3) ls (v.toList ++ st) h' Q) : Ev l G d mc ms M pc ls (avs.reverse ++ .ref a :: st) h Q := by
  obtain ⟨d', rfl⟩ : ∃ d', d = d' + 1 := ⟨d - 1, by omega⟩
  exact Ev.wide e1 e2 (Ev_I avs hdg hv w1 hn hok hst hlen (Ev.deep (by omega) hC) kk)
theorem Ev_I0 {r : Option Value} {h1 : aH} {a : Nat} (avs : List Value) (hdg : decode M.2.1 pc = .ok (.invokespecial idx, 3)) (hv : aIm Mc n) (w1 : Cond.methodLink M.1.cls idx Mc.1 ∈ aTs) (hn : avs.length = n) (hok : avs.all okv = true) (hst : st.all okv = true) (hlen : st.length ≤ 8) (hd : k < d) (hC : Ev l G k 0 0 Mc 0 (en Mc.2.2.1 (.ref a :: avs)) [] h (Ex r h1)) (kk : Ev l G d mc ms M (pc + 3) ls (r.toList ++ st) h1 Q) : Ev l G d mc ms M pc ls (avs.reverse ++ .ref a :: st) h Q :=
  Ev_Ig avs hdg hv w1 hn hok hst hlen hd (Nat.le_of_eq (Nat.zero_add _)) (Nat.le_of_eq (Nat.zero_add _)) hC (fun v h' e => by obtain ⟨rfl, rfl⟩ := e; exact kk)
theorem Ev_INg {a : Nat} {host : String} (avs : List Value) (hdg : decode M.2.1 pc = .ok (.invokespecial idx, 3)) (hv : aIm Mc n) (w1 : Cond.methodLinkNest M.1.cls idx Mc.1 host ∈ lw_tbl) (hn : avs.length = n) (hok : avs.all okv = true) (hst : st.all okv = true) (hlen : st.length ≤ 8) (hd : k < d) (e1 : mc1 + mc2 ≤ mc) (e2 : ms1 + ms2 ≤ ms) (hC : Ev l G k mc1 ms1 Mc 0 (en Mc.2.2.1 (.ref a :: avs)) [] h Q') (kk : ∀ v h', Q' v h' → Ev l G d mc2 ms2 M (pc + 3) ls (v.toList ++ st) h' Q) : Ev l G d mc ms M pc ls (avs.reverse ++ .ref a :: st) h Q := by
  obtain ⟨d', rfl⟩ : ∃ d', d = d' + 1 := ⟨d - 1, by omega⟩
  exact Ev.wide e1 e2 (Ev_IN avs hdg hv w1 hn hok hst hlen (Ev.deep (by omega) hC) kk)
theorem Ev_IN0 {r : Option Value} {h1 : aH} {a : Nat} {host : String} (avs : List Value) (hdg : decode M.2.1 pc = .ok (.invokespecial idx, 3)) (hv : aIm Mc n) (w1 : Cond.methodLinkNest M.1.cls idx Mc.1 host ∈ lw_tbl) (hn : avs.length = n) (hok : avs.all okv = true) (hst : st.all okv = true) (hlen : st.length ≤ 8) (hd : k < d) (hC : Ev l G k 0 0 Mc 0 (en Mc.2.2.1 (.ref a :: avs)) [] h (Ex r h1)) (kk : Ev l G d mc ms M (pc + 3) ls (r.toList ++ st) h1 Q) : Ev l G d mc ms M pc ls (avs.reverse ++ .ref a :: st) h Q :=
  Ev_INg avs hdg hv w1 hn hok hst hlen hd (Nat.le_of_eq (Nat.zero_add _)) (Nat.le_of_eq (Nat.zero_add _)) hC (fun v h' e => by obtain ⟨rfl, rfl⟩ := e; exact kk)
end EV
end
section
theorem ev_isIn (l : Launch) (G : aG) (x lo hi : Int32) (h : aH) : Ev l G 0 0 0 mX11_isIn 0 (en 3 [.int x, .int lo, .int hi]) [] h (Ex (some (.int (if lo.toInt ≤ x.toInt ∧ x.toInt ≤ hi.toInt then (1 : Int32) else 0))) h) := by
  refine Ev_iload_n dX11_isIn_0 rfl ?_
  refine Ev_iload_n dX11_isIn_1 rfl ?_
  refine Ev_icmp_ltT 14 dX11_isIn_2 (by decide) (fun c2 => ?_) (fun c2 => ?_)
  · refine Ev_iconst (v := nI 0) dX11_isIn_14 (by decide) ?_
    refine Ev_zret dX11_isIn_15 rfl (by decide) ?_
    sorry
  · refine Ev_iload_n dX11_isIn_5 rfl ?_
    refine Ev_iload_n dX11_isIn_6 rfl ?_
    refine Ev_icmp_gtT 14 dX11_isIn_7 (by decide) (fun c7 => ?_) (fun c7 => ?_)
    · refine Ev_iconst (v := nI 0) dX11_isIn_14 (by decide) ?_
      refine Ev_zret dX11_isIn_15 rfl (by decide) ?_
      sorry
    · refine Ev_iconst (v := nI 1) dX11_isIn_10 (by decide) ?_
      refine Ev_goto 15 dX11_isIn_11 (by decide) ?_
      refine Ev_zret dX11_isIn_15 rfl (by decide) ?_
      sorry
end
