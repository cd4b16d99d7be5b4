section
-- ===== PART A: goes FIRST, ahead of the names: the tables' words, and 'selects' of the private methods out of them =====
/-- a private method of a class that the tables say can be made, by its rows of tables_1 -/
def lw_okq (q : MethodName × Nat) : Prop := (q.1.cls ≠ "java/lang/invoke/MethodHandle" ∧ q.1.cls ≠ "java/lang/invoke/VarHandle") ∧ Cond.instantiable q.1.cls q.2 ∈ tables_1 ∧ Cond.privateMethod q.1 ∈ tables_1 ∧ Cond.instanceMethod q.1 ∈ tables_1
theorem lw_p0 : lw_okq (⟨"java/util/ArrayList", "add", "(Ljava/lang/Object;[Ljava/lang/Object;I)V"⟩, 3) := ⟨⟨by decide +kernel, by decide +kernel⟩, List.mem_of_getElem? (i := 58) (by decide +kernel), List.mem_of_getElem? (i := 316) (by decide +kernel), List.mem_of_getElem? (i := 317) (by decide +kernel)⟩
theorem lw_p1 : lw_okq (⟨"java/util/ArrayList", "grow", "()[Ljava/lang/Object;"⟩, 3) := ⟨⟨by decide +kernel, by decide +kernel⟩, List.mem_of_getElem? (i := 58) (by decide +kernel), List.mem_of_getElem? (i := 320) (by decide +kernel), List.mem_of_getElem? (i := 321) (by decide +kernel)⟩
theorem lw_p2 : lw_okq (⟨"java/util/ArrayList", "grow", "(I)[Ljava/lang/Object;"⟩, 3) := ⟨⟨by decide +kernel, by decide +kernel⟩, List.mem_of_getElem? (i := 58) (by decide +kernel), List.mem_of_getElem? (i := 324) (by decide +kernel), List.mem_of_getElem? (i := 325) (by decide +kernel)⟩
theorem lw_p3 : lw_okq (⟨"java/util/ArrayList", "fastRemove", "([Ljava/lang/Object;I)V"⟩, 3) := ⟨⟨by decide +kernel, by decide +kernel⟩, List.mem_of_getElem? (i := 58) (by decide +kernel), List.mem_of_getElem? (i := 414) (by decide +kernel), List.mem_of_getElem? (i := 415) (by decide +kernel)⟩
theorem lw_p4 : lw_okq (⟨"java/util/ArrayList", "rangeCheckForAdd", "(I)V"⟩, 3) := ⟨⟨by decide +kernel, by decide +kernel⟩, List.mem_of_getElem? (i := 58) (by decide +kernel), List.mem_of_getElem? (i := 423) (by decide +kernel), List.mem_of_getElem? (i := 424) (by decide +kernel)⟩
theorem lw_p5 : lw_okq (⟨"MadeMended$Rule", "readMark", "(I)I"⟩, 8) := ⟨⟨by decide +kernel, by decide +kernel⟩, List.mem_of_getElem? (i := 137) (by decide +kernel), List.mem_of_getElem? (i := 447) (by decide +kernel), List.mem_of_getElem? (i := 448) (by decide +kernel)⟩
theorem lw_p6 : lw_okq (⟨"MadeMended$Rule", "sortOfMark", "(I)I"⟩, 8) := ⟨⟨by decide +kernel, by decide +kernel⟩, List.mem_of_getElem? (i := 137) (by decide +kernel), List.mem_of_getElem? (i := 451) (by decide +kernel), List.mem_of_getElem? (i := 452) (by decide +kernel)⟩
theorem lw_p7 : lw_okq (⟨"MadeMended$Rule", "byteAt", "(I)I"⟩, 8) := ⟨⟨by decide +kernel, by decide +kernel⟩, List.mem_of_getElem? (i := 137) (by decide +kernel), List.mem_of_getElem? (i := 455) (by decide +kernel), List.mem_of_getElem? (i := 456) (by decide +kernel)⟩
theorem lw_p8 : lw_okq (⟨"MadeMended$Rule", "isIndex", "(I)Z"⟩, 8) := ⟨⟨by decide +kernel, by decide +kernel⟩, List.mem_of_getElem? (i := 137) (by decide +kernel), List.mem_of_getElem? (i := 462) (by decide +kernel), List.mem_of_getElem? (i := 463) (by decide +kernel)⟩
theorem lw_p9 : lw_okq (⟨"MadeMended$Rule", "blame", "(II)V"⟩, 8) := ⟨⟨by decide +kernel, by decide +kernel⟩, List.mem_of_getElem? (i := 137) (by decide +kernel), List.mem_of_getElem? (i := 466) (by decide +kernel), List.mem_of_getElem? (i := 467) (by decide +kernel)⟩
theorem lw_p10 : lw_okq (⟨"MadeMended$Rule", "addMark", "(II)V"⟩, 8) := ⟨⟨by decide +kernel, by decide +kernel⟩, List.mem_of_getElem? (i := 137) (by decide +kernel), List.mem_of_getElem? (i := 470) (by decide +kernel), List.mem_of_getElem? (i := 471) (by decide +kernel)⟩
theorem lw_p11 : lw_okq (⟨"MadeMended$Rule", "add", "(IIII)V"⟩, 8) := ⟨⟨by decide +kernel, by decide +kernel⟩, List.mem_of_getElem? (i := 137) (by decide +kernel), List.mem_of_getElem? (i := 474) (by decide +kernel), List.mem_of_getElem? (i := 475) (by decide +kernel)⟩
theorem lw_p12 : lw_okq (⟨"MadeMended$Rule", "readWord", "(I)I"⟩, 8) := ⟨⟨by decide +kernel, by decide +kernel⟩, List.mem_of_getElem? (i := 137) (by decide +kernel), List.mem_of_getElem? (i := 478) (by decide +kernel), List.mem_of_getElem? (i := 479) (by decide +kernel)⟩
theorem lw_p13 : lw_okq (⟨"MadeMended$Making", "makeUse", "(LMadeMended$Thing;II)V"⟩, 4) := ⟨⟨by decide +kernel, by decide +kernel⟩, List.mem_of_getElem? (i := 207) (by decide +kernel), List.mem_of_getElem? (i := 501) (by decide +kernel), List.mem_of_getElem? (i := 502) (by decide +kernel)⟩
theorem lw_p14 : lw_okq (⟨"MadeMended$Making", "makeParts", "(LMadeMended$Thing;III)V"⟩, 4) := ⟨⟨by decide +kernel, by decide +kernel⟩, List.mem_of_getElem? (i := 207) (by decide +kernel), List.mem_of_getElem? (i := 507) (by decide +kernel), List.mem_of_getElem? (i := 508) (by decide +kernel)⟩
theorem lw_p15 : lw_okq (⟨"MadeMended$Making", "makePiece", "(LMadeMended$Thing;LMadeMended$Rule;II)V"⟩, 4) := ⟨⟨by decide +kernel, by decide +kernel⟩, List.mem_of_getElem? (i := 207) (by decide +kernel), List.mem_of_getElem? (i := 511) (by decide +kernel), List.mem_of_getElem? (i := 512) (by decide +kernel)⟩
def lw_privs_1 : List (MethodName × Nat) := [(⟨"java/util/ArrayList", "add", "(Ljava/lang/Object;[Ljava/lang/Object;I)V"⟩, 3), (⟨"java/util/ArrayList", "grow", "()[Ljava/lang/Object;"⟩, 3), (⟨"java/util/ArrayList", "grow", "(I)[Ljava/lang/Object;"⟩, 3), (⟨"java/util/ArrayList", "fastRemove", "([Ljava/lang/Object;I)V"⟩, 3), (⟨"java/util/ArrayList", "rangeCheckForAdd", "(I)V"⟩, 3), (⟨"MadeMended$Rule", "readMark", "(I)I"⟩, 8), (⟨"MadeMended$Rule", "sortOfMark", "(I)I"⟩, 8), (⟨"MadeMended$Rule", "byteAt", "(I)I"⟩, 8), (⟨"MadeMended$Rule", "isIndex", "(I)Z"⟩, 8), (⟨"MadeMended$Rule", "blame", "(II)V"⟩, 8), (⟨"MadeMended$Rule", "addMark", "(II)V"⟩, 8), (⟨"MadeMended$Rule", "add", "(IIII)V"⟩, 8), (⟨"MadeMended$Rule", "readWord", "(I)I"⟩, 8), (⟨"MadeMended$Making", "makeUse", "(LMadeMended$Thing;II)V"⟩, 4), (⟨"MadeMended$Making", "makeParts", "(LMadeMended$Thing;III)V"⟩, 4), (⟨"MadeMended$Making", "makePiece", "(LMadeMended$Thing;LMadeMended$Rule;II)V"⟩, 4)]
theorem lw_r1 : ∀ q ∈ lw_privs_1, lw_okq q := List.forall_mem_cons.mpr ⟨lw_p0, List.forall_mem_cons.mpr ⟨lw_p1, List.forall_mem_cons.mpr ⟨lw_p2, List.forall_mem_cons.mpr ⟨lw_p3, List.forall_mem_cons.mpr ⟨lw_p4, List.forall_mem_cons.mpr ⟨lw_p5, List.forall_mem_cons.mpr ⟨lw_p6, List.forall_mem_cons.mpr ⟨lw_p7, List.forall_mem_cons.mpr ⟨lw_p8, List.forall_mem_cons.mpr ⟨lw_p9, List.forall_mem_cons.mpr ⟨lw_p10, List.forall_mem_cons.mpr ⟨lw_p11, List.forall_mem_cons.mpr ⟨lw_p12, List.forall_mem_cons.mpr ⟨lw_p13, List.forall_mem_cons.mpr ⟨lw_p14, List.forall_mem_cons.mpr ⟨lw_p15, fun _ h => absurd h List.not_mem_nil⟩⟩⟩⟩⟩⟩⟩⟩⟩⟩⟩⟩⟩⟩⟩⟩
theorem lw_p16 : lw_okq (⟨"MadeMended$Making", "spell", "(I)I"⟩, 4) := ⟨⟨by decide +kernel, by decide +kernel⟩, List.mem_of_getElem? (i := 207) (by decide +kernel), List.mem_of_getElem? (i := 573) (by decide +kernel), List.mem_of_getElem? (i := 574) (by decide +kernel)⟩
theorem lw_p17 : lw_okq (⟨"MadeMended", "turnToSpare", "()I"⟩, 8) := ⟨⟨by decide +kernel, by decide +kernel⟩, List.mem_of_getElem? (i := 23) (by decide +kernel), List.mem_of_getElem? (i := 577) (by decide +kernel), List.mem_of_getElem? (i := 578) (by decide +kernel)⟩
theorem lw_p18 : lw_okq (⟨"MadeMended$Text", "find", "(LMadeMended$Piece;I)I"⟩, 5) := ⟨⟨by decide +kernel, by decide +kernel⟩, List.mem_of_getElem? (i := 179) (by decide +kernel), List.mem_of_getElem? (i := 585) (by decide +kernel), List.mem_of_getElem? (i := 586) (by decide +kernel)⟩
theorem lw_p19 : lw_okq (⟨"MadeMended$LoneTexts", "keep", "(LMadeMended$Lone;)V"⟩, 2) := ⟨⟨by decide +kernel, by decide +kernel⟩, List.mem_of_getElem? (i := 226) (by decide +kernel), List.mem_of_getElem? (i := 629) (by decide +kernel), List.mem_of_getElem? (i := 630) (by decide +kernel)⟩
theorem lw_p20 : lw_okq (⟨"MadeMended", "fillSpareWith", "(LMadeMended$Thing;II)Z"⟩, 8) := ⟨⟨by decide +kernel, by decide +kernel⟩, List.mem_of_getElem? (i := 23) (by decide +kernel), List.mem_of_getElem? (i := 698) (by decide +kernel), List.mem_of_getElem? (i := 699) (by decide +kernel)⟩
theorem lw_p21 : lw_okq (⟨"MadeMended$Text", "showsLike", "(LMadeMended$Piece;LMadeMended$Text;LMadeMended$Piece;)Z"⟩, 5) := ⟨⟨by decide +kernel, by decide +kernel⟩, List.mem_of_getElem? (i := 179) (by decide +kernel), List.mem_of_getElem? (i := 712) (by decide +kernel), List.mem_of_getElem? (i := 713) (by decide +kernel)⟩
theorem lw_p22 : lw_okq (⟨"MadeMendedModel", "four", "(I)V"⟩, 52) := ⟨⟨by decide +kernel, by decide +kernel⟩, List.mem_of_getElem? (i := 766) (by decide +kernel), List.mem_of_getElem? (i := 935) (by decide +kernel), List.mem_of_getElem? (i := 936) (by decide +kernel)⟩
theorem lw_p23 : lw_okq (⟨"MadeMendedModel", "isName", "()Z"⟩, 52) := ⟨⟨by decide +kernel, by decide +kernel⟩, List.mem_of_getElem? (i := 766) (by decide +kernel), List.mem_of_getElem? (i := 950) (by decide +kernel), List.mem_of_getElem? (i := 951) (by decide +kernel)⟩
theorem lw_p24 : lw_okq (⟨"MadeMendedModel", "isThing", "(I)Z"⟩, 52) := ⟨⟨by decide +kernel, by decide +kernel⟩, List.mem_of_getElem? (i := 766) (by decide +kernel), List.mem_of_getElem? (i := 954) (by decide +kernel), List.mem_of_getElem? (i := 955) (by decide +kernel)⟩
theorem lw_p25 : lw_okq (⟨"MadeMendedModel", "depthOf", "(I)I"⟩, 52) := ⟨⟨by decide +kernel, by decide +kernel⟩, List.mem_of_getElem? (i := 766) (by decide +kernel), List.mem_of_getElem? (i := 958) (by decide +kernel), List.mem_of_getElem? (i := 959) (by decide +kernel)⟩
theorem lw_p26 : lw_okq (⟨"MadeMendedModel", "many", "(I)I"⟩, 52) := ⟨⟨by decide +kernel, by decide +kernel⟩, List.mem_of_getElem? (i := 766) (by decide +kernel), List.mem_of_getElem? (i := 962) (by decide +kernel), List.mem_of_getElem? (i := 963) (by decide +kernel)⟩
theorem lw_p27 : lw_okq (⟨"MadeMendedModel", "takeName", "(I)V"⟩, 52) := ⟨⟨by decide +kernel, by decide +kernel⟩, List.mem_of_getElem? (i := 766) (by decide +kernel), List.mem_of_getElem? (i := 966) (by decide +kernel), List.mem_of_getElem? (i := 967) (by decide +kernel)⟩
theorem lw_p28 : lw_okq (⟨"MadeMendedModel", "isWithin", "(II)Z"⟩, 52) := ⟨⟨by decide +kernel, by decide +kernel⟩, List.mem_of_getElem? (i := 766) (by decide +kernel), List.mem_of_getElem? (i := 987) (by decide +kernel), List.mem_of_getElem? (i := 988) (by decide +kernel)⟩
theorem lw_p29 : lw_okq (⟨"MadeMendedModel", "readRule", "()I"⟩, 52) := ⟨⟨by decide +kernel, by decide +kernel⟩, List.mem_of_getElem? (i := 766) (by decide +kernel), List.mem_of_getElem? (i := 995) (by decide +kernel), List.mem_of_getElem? (i := 996) (by decide +kernel)⟩
theorem lw_p30 : lw_okq (⟨"MadeMendedModel", "sign", "()I"⟩, 52) := ⟨⟨by decide +kernel, by decide +kernel⟩, List.mem_of_getElem? (i := 766) (by decide +kernel), List.mem_of_getElem? (i := 999) (by decide +kernel), List.mem_of_getElem? (i := 1000) (by decide +kernel)⟩
theorem lw_p31 : lw_okq (⟨"MadeMendedModel", "see", "(I)I"⟩, 52) := ⟨⟨by decide +kernel, by decide +kernel⟩, List.mem_of_getElem? (i := 766) (by decide +kernel), List.mem_of_getElem? (i := 1003) (by decide +kernel), List.mem_of_getElem? (i := 1004) (by decide +kernel)⟩
def lw_privs_2 : List (MethodName × Nat) := [(⟨"MadeMended$Making", "spell", "(I)I"⟩, 4), (⟨"MadeMended", "turnToSpare", "()I"⟩, 8), (⟨"MadeMended$Text", "find", "(LMadeMended$Piece;I)I"⟩, 5), (⟨"MadeMended$LoneTexts", "keep", "(LMadeMended$Lone;)V"⟩, 2), (⟨"MadeMended", "fillSpareWith", "(LMadeMended$Thing;II)Z"⟩, 8), (⟨"MadeMended$Text", "showsLike", "(LMadeMended$Piece;LMadeMended$Text;LMadeMended$Piece;)Z"⟩, 5), (⟨"MadeMendedModel", "four", "(I)V"⟩, 52), (⟨"MadeMendedModel", "isName", "()Z"⟩, 52), (⟨"MadeMendedModel", "isThing", "(I)Z"⟩, 52), (⟨"MadeMendedModel", "depthOf", "(I)I"⟩, 52), (⟨"MadeMendedModel", "many", "(I)I"⟩, 52), (⟨"MadeMendedModel", "takeName", "(I)V"⟩, 52), (⟨"MadeMendedModel", "isWithin", "(II)Z"⟩, 52), (⟨"MadeMendedModel", "readRule", "()I"⟩, 52), (⟨"MadeMendedModel", "sign", "()I"⟩, 52), (⟨"MadeMendedModel", "see", "(I)I"⟩, 52)]
theorem lw_r2 : ∀ q ∈ lw_privs_2, lw_okq q := List.forall_mem_cons.mpr ⟨lw_p16, List.forall_mem_cons.mpr ⟨lw_p17, List.forall_mem_cons.mpr ⟨lw_p18, List.forall_mem_cons.mpr ⟨lw_p19, List.forall_mem_cons.mpr ⟨lw_p20, List.forall_mem_cons.mpr ⟨lw_p21, List.forall_mem_cons.mpr ⟨lw_p22, List.forall_mem_cons.mpr ⟨lw_p23, List.forall_mem_cons.mpr ⟨lw_p24, List.forall_mem_cons.mpr ⟨lw_p25, List.forall_mem_cons.mpr ⟨lw_p26, List.forall_mem_cons.mpr ⟨lw_p27, List.forall_mem_cons.mpr ⟨lw_p28, List.forall_mem_cons.mpr ⟨lw_p29, List.forall_mem_cons.mpr ⟨lw_p30, List.forall_mem_cons.mpr ⟨lw_p31, fun _ h => absurd h List.not_mem_nil⟩⟩⟩⟩⟩⟩⟩⟩⟩⟩⟩⟩⟩⟩⟩⟩
theorem lw_p32 : lw_okq (⟨"MadeMendedModel", "put", "(III)I"⟩, 52) := ⟨⟨by decide +kernel, by decide +kernel⟩, List.mem_of_getElem? (i := 766) (by decide +kernel), List.mem_of_getElem? (i := 1007) (by decide +kernel), List.mem_of_getElem? (i := 1008) (by decide +kernel)⟩
theorem lw_p33 : lw_okq (⟨"MadeMendedModel", "makeNew", "()Z"⟩, 52) := ⟨⟨by decide +kernel, by decide +kernel⟩, List.mem_of_getElem? (i := 766) (by decide +kernel), List.mem_of_getElem? (i := 1019) (by decide +kernel), List.mem_of_getElem? (i := 1020) (by decide +kernel)⟩
theorem lw_p34 : lw_okq (⟨"MadeMendedModel", "childAt", "(II)I"⟩, 52) := ⟨⟨by decide +kernel, by decide +kernel⟩, List.mem_of_getElem? (i := 766) (by decide +kernel), List.mem_of_getElem? (i := 1023) (by decide +kernel), List.mem_of_getElem? (i := 1024) (by decide +kernel)⟩
theorem lw_p35 : lw_okq (⟨"MadeMendedModel", "begin", "(I)V"⟩, 52) := ⟨⟨by decide +kernel, by decide +kernel⟩, List.mem_of_getElem? (i := 766) (by decide +kernel), List.mem_of_getElem? (i := 1027) (by decide +kernel), List.mem_of_getElem? (i := 1028) (by decide +kernel)⟩
theorem lw_p36 : lw_okq (⟨"MadeMendedModel", "step", "()V"⟩, 52) := ⟨⟨by decide +kernel, by decide +kernel⟩, List.mem_of_getElem? (i := 766) (by decide +kernel), List.mem_of_getElem? (i := 1031) (by decide +kernel), List.mem_of_getElem? (i := 1032) (by decide +kernel)⟩
theorem lw_p37 : lw_okq (⟨"MadeMendedModel", "makePiece", "(II)V"⟩, 52) := ⟨⟨by decide +kernel, by decide +kernel⟩, List.mem_of_getElem? (i := 766) (by decide +kernel), List.mem_of_getElem? (i := 1035) (by decide +kernel), List.mem_of_getElem? (i := 1036) (by decide +kernel)⟩
theorem lw_p38 : lw_okq (⟨"MadeMendedModel", "write", "(I)V"⟩, 52) := ⟨⟨by decide +kernel, by decide +kernel⟩, List.mem_of_getElem? (i := 766) (by decide +kernel), List.mem_of_getElem? (i := 1039) (by decide +kernel), List.mem_of_getElem? (i := 1040) (by decide +kernel)⟩
theorem lw_p39 : lw_okq (⟨"MadeMendedModel", "writeNumber", "(I)V"⟩, 52) := ⟨⟨by decide +kernel, by decide +kernel⟩, List.mem_of_getElem? (i := 766) (by decide +kernel), List.mem_of_getElem? (i := 1043) (by decide +kernel), List.mem_of_getElem? (i := 1044) (by decide +kernel)⟩
theorem lw_p40 : lw_okq (⟨"MadeMendedModel", "turn", "()I"⟩, 52) := ⟨⟨by decide +kernel, by decide +kernel⟩, List.mem_of_getElem? (i := 766) (by decide +kernel), List.mem_of_getElem? (i := 1047) (by decide +kernel), List.mem_of_getElem? (i := 1048) (by decide +kernel)⟩
theorem lw_p41 : lw_okq (⟨"MadeMendedModel", "takeAll", "()I"⟩, 52) := ⟨⟨by decide +kernel, by decide +kernel⟩, List.mem_of_getElem? (i := 766) (by decide +kernel), List.mem_of_getElem? (i := 1051) (by decide +kernel), List.mem_of_getElem? (i := 1052) (by decide +kernel)⟩
theorem lw_p42 : lw_okq (⟨"MadeMendedModel", "sameOf", "(III)I"⟩, 52) := ⟨⟨by decide +kernel, by decide +kernel⟩, List.mem_of_getElem? (i := 766) (by decide +kernel), List.mem_of_getElem? (i := 1055) (by decide +kernel), List.mem_of_getElem? (i := 1056) (by decide +kernel)⟩
theorem lw_p43 : lw_okq (⟨"MadeMendedModel", "isSame", "(II)Z"⟩, 52) := ⟨⟨by decide +kernel, by decide +kernel⟩, List.mem_of_getElem? (i := 766) (by decide +kernel), List.mem_of_getElem? (i := 1059) (by decide +kernel), List.mem_of_getElem? (i := 1060) (by decide +kernel)⟩
theorem lw_p44 : lw_okq (⟨"MadeMendedModel", "takeOver", "(II)V"⟩, 52) := ⟨⟨by decide +kernel, by decide +kernel⟩, List.mem_of_getElem? (i := 766) (by decide +kernel), List.mem_of_getElem? (i := 1063) (by decide +kernel), List.mem_of_getElem? (i := 1064) (by decide +kernel)⟩
theorem lw_p45 : lw_okq (⟨"MadeMendedModel", "isMade", "(I[III)Z"⟩, 52) := ⟨⟨by decide +kernel, by decide +kernel⟩, List.mem_of_getElem? (i := 766) (by decide +kernel), List.mem_of_getElem? (i := 1067) (by decide +kernel), List.mem_of_getElem? (i := 1068) (by decide +kernel)⟩
theorem lw_p46 : lw_okq (⟨"MadeMendedModel", "keepLone", "(I)V"⟩, 52) := ⟨⟨by decide +kernel, by decide +kernel⟩, List.mem_of_getElem? (i := 766) (by decide +kernel), List.mem_of_getElem? (i := 1071) (by decide +kernel), List.mem_of_getElem? (i := 1072) (by decide +kernel)⟩
theorem lw_p47 : lw_okq (⟨"MadeMendedModel", "dropLone", "(I)V"⟩, 52) := ⟨⟨by decide +kernel, by decide +kernel⟩, List.mem_of_getElem? (i := 766) (by decide +kernel), List.mem_of_getElem? (i := 1075) (by decide +kernel), List.mem_of_getElem? (i := 1076) (by decide +kernel)⟩
def lw_privs_3 : List (MethodName × Nat) := [(⟨"MadeMendedModel", "put", "(III)I"⟩, 52), (⟨"MadeMendedModel", "makeNew", "()Z"⟩, 52), (⟨"MadeMendedModel", "childAt", "(II)I"⟩, 52), (⟨"MadeMendedModel", "begin", "(I)V"⟩, 52), (⟨"MadeMendedModel", "step", "()V"⟩, 52), (⟨"MadeMendedModel", "makePiece", "(II)V"⟩, 52), (⟨"MadeMendedModel", "write", "(I)V"⟩, 52), (⟨"MadeMendedModel", "writeNumber", "(I)V"⟩, 52), (⟨"MadeMendedModel", "turn", "()I"⟩, 52), (⟨"MadeMendedModel", "takeAll", "()I"⟩, 52), (⟨"MadeMendedModel", "sameOf", "(III)I"⟩, 52), (⟨"MadeMendedModel", "isSame", "(II)Z"⟩, 52), (⟨"MadeMendedModel", "takeOver", "(II)V"⟩, 52), (⟨"MadeMendedModel", "isMade", "(I[III)Z"⟩, 52), (⟨"MadeMendedModel", "keepLone", "(I)V"⟩, 52), (⟨"MadeMendedModel", "dropLone", "(I)V"⟩, 52)]
theorem lw_r3 : ∀ q ∈ lw_privs_3, lw_okq q := List.forall_mem_cons.mpr ⟨lw_p32, List.forall_mem_cons.mpr ⟨lw_p33, List.forall_mem_cons.mpr ⟨lw_p34, List.forall_mem_cons.mpr ⟨lw_p35, List.forall_mem_cons.mpr ⟨lw_p36, List.forall_mem_cons.mpr ⟨lw_p37, List.forall_mem_cons.mpr ⟨lw_p38, List.forall_mem_cons.mpr ⟨lw_p39, List.forall_mem_cons.mpr ⟨lw_p40, List.forall_mem_cons.mpr ⟨lw_p41, List.forall_mem_cons.mpr ⟨lw_p42, List.forall_mem_cons.mpr ⟨lw_p43, List.forall_mem_cons.mpr ⟨lw_p44, List.forall_mem_cons.mpr ⟨lw_p45, List.forall_mem_cons.mpr ⟨lw_p46, List.forall_mem_cons.mpr ⟨lw_p47, fun _ h => absurd h List.not_mem_nil⟩⟩⟩⟩⟩⟩⟩⟩⟩⟩⟩⟩⟩⟩⟩⟩
theorem lw_p48 : lw_okq (⟨"MadeMendedModel", "copy", "(II)V"⟩, 52) := ⟨⟨by decide +kernel, by decide +kernel⟩, List.mem_of_getElem? (i := 766) (by decide +kernel), List.mem_of_getElem? (i := 1079) (by decide +kernel), List.mem_of_getElem? (i := 1080) (by decide +kernel)⟩
theorem lw_p49 : lw_okq (⟨"MadeMendedModel", "isPiece", "(I)Z"⟩, 52) := ⟨⟨by decide +kernel, by decide +kernel⟩, List.mem_of_getElem? (i := 766) (by decide +kernel), List.mem_of_getElem? (i := 1087) (by decide +kernel), List.mem_of_getElem? (i := 1088) (by decide +kernel)⟩
theorem lw_p50 : lw_okq (⟨"MadeMendedModel", "shownLong", "(I)I"⟩, 52) := ⟨⟨by decide +kernel, by decide +kernel⟩, List.mem_of_getElem? (i := 766) (by decide +kernel), List.mem_of_getElem? (i := 1091) (by decide +kernel), List.mem_of_getElem? (i := 1092) (by decide +kernel)⟩
theorem lw_p51 : lw_okq (⟨"MadeMendedModel", "shown", "(II)I"⟩, 52) := ⟨⟨by decide +kernel, by decide +kernel⟩, List.mem_of_getElem? (i := 766) (by decide +kernel), List.mem_of_getElem? (i := 1099) (by decide +kernel), List.mem_of_getElem? (i := 1100) (by decide +kernel)⟩
theorem lw_p52 : lw_okq (⟨"MadeMendedModel", "setBase", "(I)V"⟩, 52) := ⟨⟨by decide +kernel, by decide +kernel⟩, List.mem_of_getElem? (i := 766) (by decide +kernel), List.mem_of_getElem? (i := 1107) (by decide +kernel), List.mem_of_getElem? (i := 1108) (by decide +kernel)⟩
theorem lw_p53 : lw_okq (⟨"MadeMendedModel", "numberOf", "(I)I"⟩, 52) := ⟨⟨by decide +kernel, by decide +kernel⟩, List.mem_of_getElem? (i := 766) (by decide +kernel), List.mem_of_getElem? (i := 1120) (by decide +kernel), List.mem_of_getElem? (i := 1121) (by decide +kernel)⟩
theorem lw_p54 : lw_okq (⟨"MadeMendedModel", "isShownAlike", "(II)Z"⟩, 52) := ⟨⟨by decide +kernel, by decide +kernel⟩, List.mem_of_getElem? (i := 766) (by decide +kernel), List.mem_of_getElem? (i := 1128) (by decide +kernel), List.mem_of_getElem? (i := 1129) (by decide +kernel)⟩
theorem lw_p55 : lw_okq (⟨"MadeMendedModel", "pieceAt", "(I)I"⟩, 52) := ⟨⟨by decide +kernel, by decide +kernel⟩, List.mem_of_getElem? (i := 766) (by decide +kernel), List.mem_of_getElem? (i := 1136) (by decide +kernel), List.mem_of_getElem? (i := 1137) (by decide +kernel)⟩
def lw_privs_4 : List (MethodName × Nat) := [(⟨"MadeMendedModel", "copy", "(II)V"⟩, 52), (⟨"MadeMendedModel", "isPiece", "(I)Z"⟩, 52), (⟨"MadeMendedModel", "shownLong", "(I)I"⟩, 52), (⟨"MadeMendedModel", "shown", "(II)I"⟩, 52), (⟨"MadeMendedModel", "setBase", "(I)V"⟩, 52), (⟨"MadeMendedModel", "numberOf", "(I)I"⟩, 52), (⟨"MadeMendedModel", "isShownAlike", "(II)Z"⟩, 52), (⟨"MadeMendedModel", "pieceAt", "(I)I"⟩, 52)]
theorem lw_r4 : ∀ q ∈ lw_privs_4, lw_okq q := List.forall_mem_cons.mpr ⟨lw_p48, List.forall_mem_cons.mpr ⟨lw_p49, List.forall_mem_cons.mpr ⟨lw_p50, List.forall_mem_cons.mpr ⟨lw_p51, List.forall_mem_cons.mpr ⟨lw_p52, List.forall_mem_cons.mpr ⟨lw_p53, List.forall_mem_cons.mpr ⟨lw_p54, List.forall_mem_cons.mpr ⟨lw_p55, fun _ h => absurd h List.not_mem_nil⟩⟩⟩⟩⟩⟩⟩⟩
def lw_privs : List (MethodName × Nat) := lw_privs_1 ++ (lw_privs_2 ++ (lw_privs_3 ++ (lw_privs_4)))
def lw_tbl : List Cond := k2_sels lw_privs ++ tables_1
theorem lw_privs_ok : ∀ q ∈ lw_privs, lw_okq q := by
  show ∀ q ∈ lw_privs_1 ++ (lw_privs_2 ++ (lw_privs_3 ++ (lw_privs_4))), lw_okq q
  exact List.forall_mem_append.mpr ⟨lw_r1, List.forall_mem_append.mpr ⟨lw_r2, List.forall_mem_append.mpr ⟨lw_r3, lw_r4⟩⟩⟩
end
section
def RX0 : String := "MadeMended$Hand"
def TX0 : u_T := fun k => match k with
  | 0 => ("MadeMended$Hand", "row", "[I", true)
  | _ => ("MadeMended$Hand", "base", "[I", true)
def tyX0 : Nat → FieldType := fun k => match k with
  | 0 => .array .int
  | _ => .array .int
abbrev wsX00 : List Cond := u_ws RX0 TX0 2
theorem nmX0 : ∀ a, a < 2 → ∀ b, b < 2 → a ≠ b → (TX0 a).2.1 ≠ (TX0 b).2.1 := by decide +kernel
theorem tyX0_ok : ∀ k, k < 2 → parseFieldDescriptor (TX0 k).2.2.1 = some (tyX0 k) := by decide +kernel
abbrev cX0_init : ByteArray := prog_2_method_1_code
def yX0_init : MethodName := ⟨RX0, "<init>", "([I[I)V"⟩
def RX1 : String := "MadeMended$Lone"
def TX1 : u_T := fun k => match k with
  | 0 => ("MadeMended$Lone", "row", "[I", true)
  | 1 => ("MadeMended$Lone", "sort", "I", true)
  | _ => ("MadeMended$Lone", "item", "I", true)
def tyX1 : Nat → FieldType := fun k => match k with
  | 0 => .array .int
  | 1 => .int
  | _ => .int
abbrev wsX10 : List Cond := u_ws RX1 TX1 3
theorem nmX1 : ∀ a, a < 3 → ∀ b, b < 3 → a ≠ b → (TX1 a).2.1 ≠ (TX1 b).2.1 := by decide +kernel
theorem tyX1_ok : ∀ k, k < 3 → parseFieldDescriptor (TX1 k).2.2.1 = some (tyX1 k) := by decide +kernel
abbrev cX1_init : ByteArray := prog_3_method_1_code
def yX1_init : MethodName := ⟨RX1, "<init>", "([III)V"⟩
def RX2 : String := "MadeMended$LoneTexts"
def TX2 : u_T := fun k => match k with
  | 0 => ("MadeMended$LoneTexts", "list", "Ljava/util/ArrayList;", true)
  | _ => ("MadeMended$LoneTexts", "fallen", "I", false)
def tyX2 : Nat → FieldType := fun k => match k with
  | 0 => .object "java/util/ArrayList"
  | _ => .int
abbrev wsX20 : List Cond := u_ws RX2 TX2 2
theorem nmX2 : ∀ a, a < 2 → ∀ b, b < 2 → a ≠ b → (TX2 a).2.1 ≠ (TX2 b).2.1 := by decide +kernel
theorem tyX2_ok : ∀ k, k < 2 → parseFieldDescriptor (TX2 k).2.2.1 = some (tyX2 k) := by decide +kernel
abbrev cX2_init : ByteArray := prog_4_method_1_code
def yX2_init : MethodName := ⟨RX2, "<init>", "()V"⟩
abbrev cX2_at : ByteArray := prog_4_method_2_code
def yX2_at : MethodName := ⟨RX2, "at", "(I)LMadeMended$Lone;"⟩
abbrev cX2_keepLost : ByteArray := prog_4_method_3_code
def yX2_keepLost : MethodName := ⟨RX2, "keepLost", "(LMadeMended$Text;)V"⟩
abbrev cX2_keep : ByteArray := prog_4_method_4_code
def yX2_keep : MethodName := ⟨RX2, "keep", "(LMadeMended$Lone;)V"⟩
abbrev cX2_remove : ByteArray := prog_4_method_5_code
def yX2_remove : MethodName := ⟨RX2, "remove", "(I)Z"⟩
def RX3 : String := "MadeMended$Making"
def TX3 : u_T := fun k => match k with
  | 0 => ("MadeMended$Making", "digits", "[I", true)
  | 1 => ("MadeMended$Making", "rules", "[LMadeMended$Rule;", true)
  | 2 => ("MadeMended$Making", "target", "LMadeMended$Text;", false)
  | _ => ("MadeMended$Making", "uses", "I", false)
def tyX3 : Nat → FieldType := fun k => match k with
  | 0 => .array .int
  | 1 => .array (.object "MadeMended$Rule")
  | 2 => .object "MadeMended$Text"
  | _ => .int
abbrev wsX30 : List Cond := u_ws RX3 TX3 4
theorem nmX3 : ∀ a, a < 4 → ∀ b, b < 4 → a ≠ b → (TX3 a).2.1 ≠ (TX3 b).2.1 := by decide +kernel
theorem tyX3_ok : ∀ k, k < 4 → parseFieldDescriptor (TX3 k).2.2.1 = some (tyX3 k) := by decide +kernel
abbrev cX3_init : ByteArray := prog_5_method_1_code
def yX3_init : MethodName := ⟨RX3, "<init>", "([LMadeMended$Rule;LMadeMended$Text;)V"⟩
abbrev cX3_fill : ByteArray := prog_5_method_2_code
def yX3_fill : MethodName := ⟨RX3, "fill", "(LMadeMended$Text;LMadeMended$Thing;)V"⟩
abbrev cX3_makeUse : ByteArray := prog_5_method_3_code
def yX3_makeUse : MethodName := ⟨RX3, "makeUse", "(LMadeMended$Thing;II)V"⟩
abbrev cX3_makeParts : ByteArray := prog_5_method_4_code
def yX3_makeParts : MethodName := ⟨RX3, "makeParts", "(LMadeMended$Thing;III)V"⟩
abbrev cX3_makePiece : ByteArray := prog_5_method_5_code
def yX3_makePiece : MethodName := ⟨RX3, "makePiece", "(LMadeMended$Thing;LMadeMended$Rule;II)V"⟩
abbrev cX3_spell : ByteArray := prog_5_method_6_code
def yX3_spell : MethodName := ⟨RX3, "spell", "(I)I"⟩
def RX4 : String := "MadeMended$Model"
def TX4 : u_T := fun k => match k with
  | 0 => ("MadeMended$Model", "ground", "LMadeMended$Thing;", true)
  | 1 => ("MadeMended$Model", "things", "[LMadeMended$Thing;", true)
  | _ => ("MadeMended$Model", "count", "I", false)
def tyX4 : Nat → FieldType := fun k => match k with
  | 0 => .object "MadeMended$Thing"
  | 1 => .array (.object "MadeMended$Thing")
  | _ => .int
abbrev wsX40 : List Cond := u_ws RX4 TX4 3
theorem nmX4 : ∀ a, a < 3 → ∀ b, b < 3 → a ≠ b → (TX4 a).2.1 ≠ (TX4 b).2.1 := by decide +kernel
theorem tyX4_ok : ∀ k, k < 3 → parseFieldDescriptor (TX4 k).2.2.1 = some (tyX4 k) := by decide +kernel
abbrev cX4_init : ByteArray := prog_6_method_1_code
def yX4_init : MethodName := ⟨RX4, "<init>", "()V"⟩
abbrev cX4_at : ByteArray := prog_6_method_2_code
def yX4_at : MethodName := ⟨RX4, "at", "(I)LMadeMended$Thing;"⟩
abbrev cX4_freeSlot : ByteArray := prog_6_method_3_code
def yX4_freeSlot : MethodName := ⟨RX4, "freeSlot", "()I"⟩
abbrev cX4_put : ByteArray := prog_6_method_4_code
def yX4_put : MethodName := ⟨RX4, "put", "(LMadeMended$Thing;)V"⟩
abbrev cX4_placeOf : ByteArray := prog_6_method_5_code
def yX4_placeOf : MethodName := ⟨RX4, "placeOf", "(LMadeMended$Thing;)I"⟩
abbrev cX4_shift : ByteArray := prog_6_method_6_code
def yX4_shift : MethodName := ⟨RX4, "shift", "(LMadeMended$Thing;I)Z"⟩
abbrev cX4_remove : ByteArray := prog_6_method_7_code
def yX4_remove : MethodName := ⟨RX4, "remove", "(LMadeMended$Thing;)I"⟩
def RX5 : String := "MadeMended$Piece"
def TX5 : u_T := fun k => match k with
  | 0 => ("MadeMended$Piece", "thing", "LMadeMended$Thing;", false)
  | 1 => ("MadeMended$Piece", "item", "I", false)
  | 2 => ("MadeMended$Piece", "sort", "I", false)
  | 3 => ("MadeMended$Piece", "number", "I", false)
  | 4 => ("MadeMended$Piece", "way", "I", false)
  | 5 => ("MadeMended$Piece", "start", "I", false)
  | 6 => ("MadeMended$Piece", "length", "I", false)
  | 7 => ("MadeMended$Piece", "byHand", "LMadeMended$Hand;", false)
  | _ => ("MadeMended$Piece", "lost", "Z", false)
def tyX5 : Nat → FieldType := fun k => match k with
  | 0 => .object "MadeMended$Thing"
  | 1 => .int
  | 2 => .int
  | 3 => .int
  | 4 => .int
  | 5 => .int
  | 6 => .int
  | 7 => .object "MadeMended$Hand"
  | _ => .boolean
abbrev wsX50 : List Cond := u_ws RX5 TX5 9
theorem nmX5 : ∀ a, a < 9 → ∀ b, b < 9 → a ≠ b → (TX5 a).2.1 ≠ (TX5 b).2.1 := by decide +kernel
theorem tyX5_ok : ∀ k, k < 9 → parseFieldDescriptor (TX5 k).2.2.1 = some (tyX5 k) := by decide +kernel
abbrev cX5_init : ByteArray := prog_7_method_1_code
def yX5_init : MethodName := ⟨RX5, "<init>", "(LMadeMended$Thing;)V"⟩
abbrev cX5_shownLength : ByteArray := prog_7_method_2_code
def yX5_shownLength : MethodName := ⟨RX5, "shownLength", "()I"⟩
abbrev cX5_hasMakerOf : ByteArray := prog_7_method_3_code
def yX5_hasMakerOf : MethodName := ⟨RX5, "hasMakerOf", "(LMadeMended$Piece;)Z"⟩
def RX6 : String := "MadeMended$Rule"
def TX6 : u_T := fun k => match k with
  | 0 => ("MadeMended$Rule", "bytes", "[I", true)
  | 1 => ("MadeMended$Rule", "sorts", "[I", true)
  | 2 => ("MadeMended$Rule", "firsts", "[I", true)
  | 3 => ("MadeMended$Rule", "seconds", "[I", true)
  | 4 => ("MadeMended$Rule", "count", "I", false)
  | 5 => ("MadeMended$Rule", "flaw", "I", false)
  | 6 => ("MadeMended$Rule", "flawPlace", "I", false)
  | _ => ("MadeMended$Rule", "open", "Z", false)
def tyX6 : Nat → FieldType := fun k => match k with
  | 0 => .array .int
  | 1 => .array .int
  | 2 => .array .int
  | 3 => .array .int
  | 4 => .int
  | 5 => .int
  | 6 => .int
  | _ => .boolean
abbrev wsX60 : List Cond := u_ws RX6 TX6 8
theorem nmX6 : ∀ a, a < 8 → ∀ b, b < 8 → a ≠ b → (TX6 a).2.1 ≠ (TX6 b).2.1 := by decide +kernel
theorem tyX6_ok : ∀ k, k < 8 → parseFieldDescriptor (TX6 k).2.2.1 = some (tyX6 k) := by decide +kernel
abbrev cX6_init : ByteArray := prog_8_method_1_code
def yX6_init : MethodName := ⟨RX6, "<init>", "([I)V"⟩
abbrev cX6_readItems : ByteArray := prog_8_method_2_code
def yX6_readItems : MethodName := ⟨RX6, "readItems", "()V"⟩
abbrev cX6_readWord : ByteArray := prog_8_method_3_code
def yX6_readWord : MethodName := ⟨RX6, "readWord", "(I)I"⟩
abbrev cX6_readMark : ByteArray := prog_8_method_4_code
def yX6_readMark : MethodName := ⟨RX6, "readMark", "(I)I"⟩
abbrev cX6_addMark : ByteArray := prog_8_method_5_code
def yX6_addMark : MethodName := ⟨RX6, "addMark", "(II)V"⟩
abbrev cX6_add : ByteArray := prog_8_method_6_code
def yX6_add : MethodName := ⟨RX6, "add", "(IIII)V"⟩
abbrev cX6_sortOfMark : ByteArray := prog_8_method_7_code
def yX6_sortOfMark : MethodName := ⟨RX6, "sortOfMark", "(I)I"⟩
abbrev cX6_isIndex : ByteArray := prog_8_method_8_code
def yX6_isIndex : MethodName := ⟨RX6, "isIndex", "(I)Z"⟩
abbrev cX6_byteAt : ByteArray := prog_8_method_9_code
def yX6_byteAt : MethodName := ⟨RX6, "byteAt", "(I)I"⟩
abbrev cX6_blame : ByteArray := prog_8_method_10_code
def yX6_blame : MethodName := ⟨RX6, "blame", "(II)V"⟩
def RX7 : String := "MadeMended$Tape"
def TX7 : u_T := fun k => match k with
  | 0 => ("MadeMended$Tape", "bytes", "[I", true)
  | _ => ("MadeMended$Tape", "length", "I", false)
def tyX7 : Nat → FieldType := fun k => match k with
  | 0 => .array .int
  | _ => .int
abbrev wsX70 : List Cond := u_ws RX7 TX7 2
theorem nmX7 : ∀ a, a < 2 → ∀ b, b < 2 → a ≠ b → (TX7 a).2.1 ≠ (TX7 b).2.1 := by decide +kernel
theorem tyX7_ok : ∀ k, k < 2 → parseFieldDescriptor (TX7 k).2.2.1 = some (tyX7 k) := by decide +kernel
abbrev cX7_init : ByteArray := prog_9_method_1_code
def yX7_init : MethodName := ⟨RX7, "<init>", "()V"⟩
abbrev cX7_putFour : ByteArray := prog_9_method_2_code
def yX7_putFour : MethodName := ⟨RX7, "putFour", "(I)V"⟩
abbrev cX7_isName : ByteArray := prog_9_method_3_code
def yX7_isName : MethodName := ⟨RX7, "isName", "()Z"⟩
abbrev cX7_cutAll : ByteArray := prog_9_method_4_code
def yX7_cutAll : MethodName := ⟨RX7, "cutAll", "()[I"⟩
def RX8 : String := "MadeMended$Text"
def TX8 : u_T := fun k => match k with
  | 0 => ("MadeMended$Text", "pieces", "[LMadeMended$Piece;", true)
  | 1 => ("MadeMended$Text", "made", "[I", true)
  | 2 => ("MadeMended$Text", "bytes", "I", false)
  | 3 => ("MadeMended$Text", "count", "I", false)
  | _ => ("MadeMended$Text", "full", "Z", false)
def tyX8 : Nat → FieldType := fun k => match k with
  | 0 => .array (.object "MadeMended$Piece")
  | 1 => .array .int
  | 2 => .int
  | 3 => .int
  | _ => .boolean
abbrev wsX80 : List Cond := u_ws RX8 TX8 5
theorem nmX8 : ∀ a, a < 5 → ∀ b, b < 5 → a ≠ b → (TX8 a).2.1 ≠ (TX8 b).2.1 := by decide +kernel
theorem tyX8_ok : ∀ k, k < 5 → parseFieldDescriptor (TX8 k).2.2.1 = some (tyX8 k) := by decide +kernel
abbrev cX8_init : ByteArray := prog_10_method_1_code
def yX8_init : MethodName := ⟨RX8, "<init>", "()V"⟩
abbrev cX8_clear : ByteArray := prog_10_method_2_code
def yX8_clear : MethodName := ⟨RX8, "clear", "()V"⟩
abbrev cX8_at : ByteArray := prog_10_method_3_code
def yX8_at : MethodName := ⟨RX8, "at", "(I)LMadeMended$Piece;"⟩
abbrev cX8_open : ByteArray := prog_10_method_4_code
def yX8_open : MethodName := ⟨RX8, "open", "(LMadeMended$Thing;IIII)V"⟩
abbrev cX8_putMade : ByteArray := prog_10_method_5_code
def yX8_putMade : MethodName := ⟨RX8, "putMade", "([III)V"⟩
abbrev cX8_madeByte : ByteArray := prog_10_method_6_code
def yX8_madeByte : MethodName := ⟨RX8, "madeByte", "(LMadeMended$Piece;I)I"⟩
abbrev cX8_shownByte : ByteArray := prog_10_method_7_code
def yX8_shownByte : MethodName := ⟨RX8, "shownByte", "(LMadeMended$Piece;I)I"⟩
abbrev cX8_madeIs : ByteArray := prog_10_method_8_code
def yX8_madeIs : MethodName := ⟨RX8, "madeIs", "(LMadeMended$Piece;[I)Z"⟩
abbrev cX8_copyOfMade : ByteArray := prog_10_method_9_code
def yX8_copyOfMade : MethodName := ⟨RX8, "copyOfMade", "(LMadeMended$Piece;)[I"⟩
abbrev cX8_isClash : ByteArray := prog_10_method_10_code
def yX8_isClash : MethodName := ⟨RX8, "isClash", "(LMadeMended$Piece;)Z"⟩
abbrev cX8_countClashes : ByteArray := prog_10_method_11_code
def yX8_countClashes : MethodName := ⟨RX8, "countClashes", "()I"⟩
abbrev cX8_shownBefore : ByteArray := prog_10_method_12_code
def yX8_shownBefore : MethodName := ⟨RX8, "shownBefore", "(I)I"⟩
abbrev cX8_showing : ByteArray := prog_10_method_13_code
def yX8_showing : MethodName := ⟨RX8, "showing", "(I)I"⟩
abbrev cX8_takeHands : ByteArray := prog_10_method_14_code
def yX8_takeHands : MethodName := ⟨RX8, "takeHands", "(LMadeMended$Text;)I"⟩
abbrev cX8_find : ByteArray := prog_10_method_15_code
def yX8_find : MethodName := ⟨RX8, "find", "(LMadeMended$Piece;I)I"⟩
abbrev cX8_countUnlike : ByteArray := prog_10_method_16_code
def yX8_countUnlike : MethodName := ⟨RX8, "countUnlike", "(LMadeMended$Text;)I"⟩
abbrev cX8_showsLike : ByteArray := prog_10_method_17_code
def yX8_showsLike : MethodName := ⟨RX8, "showsLike", "(LMadeMended$Piece;LMadeMended$Text;LMadeMended$Piece;)Z"⟩
def RX9 : String := "MadeMended$Thing"
def TX9 : u_T := fun k => match k with
  | 0 => ("MadeMended$Thing", "slot", "I", true)
  | 1 => ("MadeMended$Thing", "kind", "I", true)
  | 2 => ("MadeMended$Thing", "in", "LMadeMended$Thing;", true)
  | 3 => ("MadeMended$Thing", "depth", "I", true)
  | 4 => ("MadeMended$Thing", "numbers", "[I", true)
  | 5 => ("MadeMended$Thing", "parts", "Ljava/util/ArrayList;", true)
  | 6 => ("MadeMended$Thing", "letters", "[I", false)
  | _ => ("MadeMended$Thing", "gone", "Z", false)
def tyX9 : Nat → FieldType := fun k => match k with
  | 0 => .int
  | 1 => .int
  | 2 => .object "MadeMended$Thing"
  | 3 => .int
  | 4 => .array .int
  | 5 => .object "java/util/ArrayList"
  | 6 => .array .int
  | _ => .boolean
abbrev wsX90 : List Cond := u_ws RX9 TX9 8
theorem nmX9 : ∀ a, a < 8 → ∀ b, b < 8 → a ≠ b → (TX9 a).2.1 ≠ (TX9 b).2.1 := by decide +kernel
theorem tyX9_ok : ∀ k, k < 8 → parseFieldDescriptor (TX9 k).2.2.1 = some (tyX9 k) := by decide +kernel
abbrev cX9_init : ByteArray := prog_11_method_1_code
def yX9_init : MethodName := ⟨RX9, "<init>", "(IILMadeMended$Thing;[I)V"⟩
abbrev cX9_isWithin : ByteArray := prog_11_method_2_code
def yX9_isWithin : MethodName := ⟨RX9, "isWithin", "(LMadeMended$Thing;)Z"⟩
def RX10 : String := "MadeMended"
def TX10 : u_T := fun k => match k with
  | 0 => ("MadeMended", "tape", "LMadeMended$Tape;", true)
  | 1 => ("MadeMended", "model", "LMadeMended$Model;", true)
  | 2 => ("MadeMended", "rules", "[LMadeMended$Rule;", true)
  | 3 => ("MadeMended", "making", "LMadeMended$Making;", true)
  | 4 => ("MadeMended", "lones", "LMadeMended$LoneTexts;", true)
  | 5 => ("MadeMended", "latest", "LMadeMended$Rule;", false)
  | 6 => ("MadeMended", "now", "LMadeMended$Text;", false)
  | _ => ("MadeMended", "spare", "LMadeMended$Text;", false)
def tyX10 : Nat → FieldType := fun k => match k with
  | 0 => .object "MadeMended$Tape"
  | 1 => .object "MadeMended$Model"
  | 2 => .array (.object "MadeMended$Rule")
  | 3 => .object "MadeMended$Making"
  | 4 => .object "MadeMended$LoneTexts"
  | 5 => .object "MadeMended$Rule"
  | 6 => .object "MadeMended$Text"
  | _ => .object "MadeMended$Text"
abbrev wsX100 : List Cond := u_ws RX10 TX10 8
theorem nmX10 : ∀ a, a < 8 → ∀ b, b < 8 → a ≠ b → (TX10 a).2.1 ≠ (TX10 b).2.1 := by decide +kernel
theorem tyX10_ok : ∀ k, k < 8 → parseFieldDescriptor (TX10 k).2.2.1 = some (tyX10 k) := by decide +kernel
abbrev cX10_init : ByteArray := prog_1_method_1_code
def yX10_init : MethodName := ⟨RX10, "<init>", "()V"⟩
abbrev cX10_feed : ByteArray := prog_1_method_2_code
def yX10_feed : MethodName := ⟨RX10, "feed", "(IIIII)I"⟩
abbrev cX10_end : ByteArray := prog_1_method_3_code
def yX10_end : MethodName := ⟨RX10, "end", "(I)I"⟩
abbrev cX10_thing : ByteArray := prog_1_method_4_code
def yX10_thing : MethodName := ⟨RX10, "thing", "(II)I"⟩
abbrev cX10_number : ByteArray := prog_1_method_5_code
def yX10_number : MethodName := ⟨RX10, "number", "(III)Z"⟩
abbrev cX10_name : ByteArray := prog_1_method_6_code
def yX10_name : MethodName := ⟨RX10, "name", "(I)Z"⟩
abbrev cX10_move : ByteArray := prog_1_method_7_code
def yX10_move : MethodName := ⟨RX10, "move", "(II)Z"⟩
abbrev cX10_drop : ByteArray := prog_1_method_8_code
def yX10_drop : MethodName := ⟨RX10, "drop", "(I)I"⟩
abbrev cX10_rule : ByteArray := prog_1_method_9_code
def yX10_rule : MethodName := ⟨RX10, "rule", "(I)I"⟩
abbrev cX10_fault : ByteArray := prog_1_method_10_code
def yX10_fault : MethodName := ⟨RX10, "fault", "(I)I"⟩
abbrev cX10_make : ByteArray := prog_1_method_11_code
def yX10_make : MethodName := ⟨RX10, "make", "()I"⟩
abbrev cX10_piece : ByteArray := prog_1_method_12_code
def yX10_piece : MethodName := ⟨RX10, "piece", "(II)I"⟩
abbrev cX10_byteOf : ByteArray := prog_1_method_13_code
def yX10_byteOf : MethodName := ⟨RX10, "byteOf", "(III)I"⟩
abbrev cX10_hand : ByteArray := prog_1_method_14_code
def yX10_hand : MethodName := ⟨RX10, "hand", "(I)Z"⟩
abbrev cX10_take : ByteArray := prog_1_method_15_code
def yX10_take : MethodName := ⟨RX10, "take", "(II)Z"⟩
abbrev cX10_back : ByteArray := prog_1_method_16_code
def yX10_back : MethodName := ⟨RX10, "back", "(I)I"⟩
abbrev cX10_touch : ByteArray := prog_1_method_17_code
def yX10_touch : MethodName := ⟨RX10, "touch", "(IIII)I"⟩
abbrev cX10_text : ByteArray := prog_1_method_18_code
def yX10_text : MethodName := ⟨RX10, "text", "(I)I"⟩
abbrev cX10_maker : ByteArray := prog_1_method_19_code
def yX10_maker : MethodName := ⟨RX10, "maker", "(I)I"⟩
abbrev cX10_lone : ByteArray := prog_1_method_20_code
def yX10_lone : MethodName := ⟨RX10, "lone", "(III)I"⟩
abbrev cX10_drops : ByteArray := prog_1_method_21_code
def yX10_drops : MethodName := ⟨RX10, "drops", "(I)Z"⟩
abbrev cX10_thingOf : ByteArray := prog_1_method_22_code
def yX10_thingOf : MethodName := ⟨RX10, "thingOf", "(II)I"⟩
abbrev cX10_about : ByteArray := prog_1_method_23_code
def yX10_about : MethodName := ⟨RX10, "about", "(I)I"⟩
abbrev cX10_fillSpareWith : ByteArray := prog_1_method_24_code
def yX10_fillSpareWith : MethodName := ⟨RX10, "fillSpareWith", "(LMadeMended$Thing;II)Z"⟩
abbrev cX10_turnToSpare : ByteArray := prog_1_method_25_code
def yX10_turnToSpare : MethodName := ⟨RX10, "turnToSpare", "()I"⟩
abbrev cX10_isKind : ByteArray := prog_1_method_26_code
def yX10_isKind : MethodName := ⟨RX10, "isKind", "(I)Z"⟩
abbrev cX10_canBeNumber : ByteArray := prog_1_method_27_code
def yX10_canBeNumber : MethodName := ⟨RX10, "canBeNumber", "(II)Z"⟩
abbrev cX10_elementOf : ByteArray := prog_1_method_28_code
def yX10_elementOf : MethodName := ⟨RX10, "elementOf", "([II)I"⟩
abbrev cX10_valueOf : ByteArray := prog_1_method_29_code
def yX10_valueOf : MethodName := ⟨RX10, "valueOf", "([I)I"⟩
def RX11 : String := "MadeMendedModel"
def TX11 : u_T := fun k => match k with
  | 0 => ("MadeMendedModel", "things", "I", false)
  | 1 => ("MadeMendedModel", "came", "[I", true)
  | 2 => ("MadeMendedModel", "comings", "I", false)
  | 3 => ("MadeMendedModel", "kind", "[I", true)
  | 4 => ("MadeMendedModel", "parent", "[I", true)
  | 5 => ("MadeMendedModel", "place", "[I", true)
  | 6 => ("MadeMendedModel", "number", "[I", true)
  | 7 => ("MadeMendedModel", "name", "[I", true)
  | 8 => ("MadeMendedModel", "named", "[I", true)
  | 9 => ("MadeMendedModel", "items", "[I", true)
  | 10 => ("MadeMendedModel", "sort", "[I", true)
  | 11 => ("MadeMendedModel", "one", "[I", true)
  | 12 => ("MadeMendedModel", "two", "[I", true)
  | 13 => ("MadeMendedModel", "ruleBytes", "[I", true)
  | 14 => ("MadeMendedModel", "fault", "I", false)
  | 15 => ("MadeMendedModel", "faultPlace", "I", false)
  | 16 => ("MadeMendedModel", "tape", "[I", true)
  | 17 => ("MadeMendedModel", "taped", "I", false)
  | 18 => ("MadeMendedModel", "at", "I", false)
  | 19 => ("MadeMendedModel", "read", "I", false)
  | 20 => ("MadeMendedModel", "within", "Z", false)
  | 21 => ("MadeMendedModel", "pieces", "[I", true)
  | 22 => ("MadeMendedModel", "item", "[I", true)
  | 23 => ("MadeMendedModel", "pieceSort", "[I", true)
  | 24 => ("MadeMendedModel", "pieceKind", "[I", true)
  | 25 => ("MadeMendedModel", "pieceNumber", "[I", true)
  | 26 => ("MadeMendedModel", "deep", "[I", true)
  | 27 => ("MadeMendedModel", "way", "[I", true)
  | 28 => ("MadeMendedModel", "thingOf", "[I", true)
  | 29 => ("MadeMendedModel", "madeFrom", "[I", true)
  | 30 => ("MadeMendedModel", "madeLong", "[I", true)
  | 31 => ("MadeMendedModel", "bytes", "[I", true)
  | 32 => ("MadeMendedModel", "written", "I", false)
  | 33 => ("MadeMendedModel", "handLong", "[I", true)
  | 34 => ("MadeMendedModel", "hand", "[I", true)
  | 35 => ("MadeMendedModel", "baseLong", "[I", true)
  | 36 => ("MadeMendedModel", "base", "[I", true)
  | 37 => ("MadeMendedModel", "clash", "[Z", true)
  | 38 => ("MadeMendedModel", "useThing", "[I", true)
  | 39 => ("MadeMendedModel", "useItem", "[I", true)
  | 40 => ("MadeMendedModel", "useChild", "[I", true)
  | 41 => ("MadeMendedModel", "isLeft", "[Z", true)
  | 42 => ("MadeMendedModel", "open", "I", false)
  | 43 => ("MadeMendedModel", "uses", "I", false)
  | 44 => ("MadeMendedModel", "full", "Z", false)
  | 45 => ("MadeMendedModel", "lones", "I", false)
  | 46 => ("MadeMendedModel", "loneSort", "[I", true)
  | 47 => ("MadeMendedModel", "loneItem", "[I", true)
  | 48 => ("MadeMendedModel", "loneLong", "[I", true)
  | 49 => ("MadeMendedModel", "lone", "[I", true)
  | 50 => ("MadeMendedModel", "fallen", "I", false)
  | _ => ("MadeMendedModel", "placed", "I", false)
def tyX11 : Nat → FieldType := fun k => match k with
  | 0 => .int
  | 1 => .array .int
  | 2 => .int
  | 3 => .array .int
  | 4 => .array .int
  | 5 => .array .int
  | 6 => .array .int
  | 7 => .array .int
  | 8 => .array .int
  | 9 => .array .int
  | 10 => .array .int
  | 11 => .array .int
  | 12 => .array .int
  | 13 => .array .int
  | 14 => .int
  | 15 => .int
  | 16 => .array .int
  | 17 => .int
  | 18 => .int
  | 19 => .int
  | 20 => .boolean
  | 21 => .array .int
  | 22 => .array .int
  | 23 => .array .int
  | 24 => .array .int
  | 25 => .array .int
  | 26 => .array .int
  | 27 => .array .int
  | 28 => .array .int
  | 29 => .array .int
  | 30 => .array .int
  | 31 => .array .int
  | 32 => .int
  | 33 => .array .int
  | 34 => .array .int
  | 35 => .array .int
  | 36 => .array .int
  | 37 => .array .boolean
  | 38 => .array .int
  | 39 => .array .int
  | 40 => .array .int
  | 41 => .array .boolean
  | 42 => .int
  | 43 => .int
  | 44 => .boolean
  | 45 => .int
  | 46 => .array .int
  | 47 => .array .int
  | 48 => .array .int
  | 49 => .array .int
  | 50 => .int
  | _ => .int
abbrev wsX110 : List Cond := u_ws RX11 TX11 52
theorem nmX11 : ∀ a, a < 52 → ∀ b, b < 52 → a ≠ b → (TX11 a).2.1 ≠ (TX11 b).2.1 := by decide +kernel
theorem tyX11_ok : ∀ k, k < 52 → parseFieldDescriptor (TX11 k).2.2.1 = some (tyX11 k) := by decide +kernel
abbrev cX11_init : ByteArray := prog_13_method_1_code
def yX11_init : MethodName := ⟨RX11, "<init>", "()V"⟩
abbrev cX11_isIn : ByteArray := prog_13_method_2_code
def yX11_isIn : MethodName := ⟨RX11, "isIn", "(III)Z"⟩
abbrev cX11_isThing : ByteArray := prog_13_method_3_code
def yX11_isThing : MethodName := ⟨RX11, "isThing", "(I)Z"⟩
abbrev cX11_four : ByteArray := prog_13_method_4_code
def yX11_four : MethodName := ⟨RX11, "four", "(I)V"⟩
abbrev cX11_feed : ByteArray := prog_13_method_5_code
def yX11_feed : MethodName := ⟨RX11, "feed", "(IIIII)I"⟩
abbrev cX11_end : ByteArray := prog_13_method_6_code
def yX11_end : MethodName := ⟨RX11, "end", "(I)I"⟩
abbrev cX11_isName : ByteArray := prog_13_method_7_code
def yX11_isName : MethodName := ⟨RX11, "isName", "()Z"⟩
abbrev cX11_depthOf : ByteArray := prog_13_method_8_code
def yX11_depthOf : MethodName := ⟨RX11, "depthOf", "(I)I"⟩
abbrev cX11_many : ByteArray := prog_13_method_9_code
def yX11_many : MethodName := ⟨RX11, "many", "(I)I"⟩
abbrev cX11_takeName : ByteArray := prog_13_method_10_code
def yX11_takeName : MethodName := ⟨RX11, "takeName", "(I)V"⟩
abbrev cX11_thing : ByteArray := prog_13_method_11_code
def yX11_thing : MethodName := ⟨RX11, "thing", "(II)I"⟩
abbrev cX11_number : ByteArray := prog_13_method_12_code
def yX11_number : MethodName := ⟨RX11, "number", "(III)Z"⟩
abbrev cX11_name : ByteArray := prog_13_method_13_code
def yX11_name : MethodName := ⟨RX11, "name", "(I)Z"⟩
abbrev cX11_move : ByteArray := prog_13_method_14_code
def yX11_move : MethodName := ⟨RX11, "move", "(II)Z"⟩
abbrev cX11_isWithin : ByteArray := prog_13_method_15_code
def yX11_isWithin : MethodName := ⟨RX11, "isWithin", "(II)Z"⟩
abbrev cX11_drop : ByteArray := prog_13_method_16_code
def yX11_drop : MethodName := ⟨RX11, "drop", "(I)I"⟩
abbrev cX11_see : ByteArray := prog_13_method_17_code
def yX11_see : MethodName := ⟨RX11, "see", "(I)I"⟩
abbrev cX11_put : ByteArray := prog_13_method_18_code
def yX11_put : MethodName := ⟨RX11, "put", "(III)I"⟩
abbrev cX11_sign : ByteArray := prog_13_method_19_code
def yX11_sign : MethodName := ⟨RX11, "sign", "()I"⟩
abbrev cX11_readRule : ByteArray := prog_13_method_20_code
def yX11_readRule : MethodName := ⟨RX11, "readRule", "()I"⟩
abbrev cX11_rule : ByteArray := prog_13_method_21_code
def yX11_rule : MethodName := ⟨RX11, "rule", "(I)I"⟩
abbrev cX11_fault : ByteArray := prog_13_method_22_code
def yX11_fault : MethodName := ⟨RX11, "fault", "(I)I"⟩
abbrev cX11_begin : ByteArray := prog_13_method_23_code
def yX11_begin : MethodName := ⟨RX11, "begin", "(I)V"⟩
abbrev cX11_write : ByteArray := prog_13_method_24_code
def yX11_write : MethodName := ⟨RX11, "write", "(I)V"⟩
abbrev cX11_writeNumber : ByteArray := prog_13_method_25_code
def yX11_writeNumber : MethodName := ⟨RX11, "writeNumber", "(I)V"⟩
abbrev cX11_makePiece : ByteArray := prog_13_method_26_code
def yX11_makePiece : MethodName := ⟨RX11, "makePiece", "(II)V"⟩
abbrev cX11_childAt : ByteArray := prog_13_method_27_code
def yX11_childAt : MethodName := ⟨RX11, "childAt", "(II)I"⟩
abbrev cX11_step : ByteArray := prog_13_method_28_code
def yX11_step : MethodName := ⟨RX11, "step", "()V"⟩
abbrev cX11_makeNew : ByteArray := prog_13_method_29_code
def yX11_makeNew : MethodName := ⟨RX11, "makeNew", "()Z"⟩
abbrev cX11_isSame : ByteArray := prog_13_method_30_code
def yX11_isSame : MethodName := ⟨RX11, "isSame", "(II)Z"⟩
abbrev cX11_sameOf : ByteArray := prog_13_method_31_code
def yX11_sameOf : MethodName := ⟨RX11, "sameOf", "(III)I"⟩
abbrev cX11_isMade : ByteArray := prog_13_method_32_code
def yX11_isMade : MethodName := ⟨RX11, "isMade", "(I[III)Z"⟩
abbrev cX11_takeOver : ByteArray := prog_13_method_33_code
def yX11_takeOver : MethodName := ⟨RX11, "takeOver", "(II)V"⟩
abbrev cX11_takeAll : ByteArray := prog_13_method_34_code
def yX11_takeAll : MethodName := ⟨RX11, "takeAll", "()I"⟩
abbrev cX11_dropLone : ByteArray := prog_13_method_35_code
def yX11_dropLone : MethodName := ⟨RX11, "dropLone", "(I)V"⟩
abbrev cX11_keepLone : ByteArray := prog_13_method_36_code
def yX11_keepLone : MethodName := ⟨RX11, "keepLone", "(I)V"⟩
abbrev cX11_turn : ByteArray := prog_13_method_37_code
def yX11_turn : MethodName := ⟨RX11, "turn", "()I"⟩
abbrev cX11_copy : ByteArray := prog_13_method_38_code
def yX11_copy : MethodName := ⟨RX11, "copy", "(II)V"⟩
abbrev cX11_make : ByteArray := prog_13_method_39_code
def yX11_make : MethodName := ⟨RX11, "make", "()I"⟩
abbrev cX11_isPiece : ByteArray := prog_13_method_40_code
def yX11_isPiece : MethodName := ⟨RX11, "isPiece", "(I)Z"⟩
abbrev cX11_shownLong : ByteArray := prog_13_method_41_code
def yX11_shownLong : MethodName := ⟨RX11, "shownLong", "(I)I"⟩
abbrev cX11_shown : ByteArray := prog_13_method_42_code
def yX11_shown : MethodName := ⟨RX11, "shown", "(II)I"⟩
abbrev cX11_piece : ByteArray := prog_13_method_43_code
def yX11_piece : MethodName := ⟨RX11, "piece", "(II)I"⟩
abbrev cX11_byteOf : ByteArray := prog_13_method_44_code
def yX11_byteOf : MethodName := ⟨RX11, "byteOf", "(III)I"⟩
abbrev cX11_setBase : ByteArray := prog_13_method_45_code
def yX11_setBase : MethodName := ⟨RX11, "setBase", "(I)V"⟩
abbrev cX11_hand : ByteArray := prog_13_method_46_code
def yX11_hand : MethodName := ⟨RX11, "hand", "(I)Z"⟩
abbrev cX11_take : ByteArray := prog_13_method_47_code
def yX11_take : MethodName := ⟨RX11, "take", "(II)Z"⟩
abbrev cX11_numberOf : ByteArray := prog_13_method_48_code
def yX11_numberOf : MethodName := ⟨RX11, "numberOf", "(I)I"⟩
abbrev cX11_back : ByteArray := prog_13_method_49_code
def yX11_back : MethodName := ⟨RX11, "back", "(I)I"⟩
abbrev cX11_touch : ByteArray := prog_13_method_50_code
def yX11_touch : MethodName := ⟨RX11, "touch", "(IIII)I"⟩
abbrev cX11_isShownAlike : ByteArray := prog_13_method_51_code
def yX11_isShownAlike : MethodName := ⟨RX11, "isShownAlike", "(II)Z"⟩
abbrev cX11_pieceAt : ByteArray := prog_13_method_52_code
def yX11_pieceAt : MethodName := ⟨RX11, "pieceAt", "(I)I"⟩
abbrev cX11_text : ByteArray := prog_13_method_53_code
def yX11_text : MethodName := ⟨RX11, "text", "(I)I"⟩
abbrev cX11_maker : ByteArray := prog_13_method_54_code
def yX11_maker : MethodName := ⟨RX11, "maker", "(I)I"⟩
abbrev cX11_lone : ByteArray := prog_13_method_55_code
def yX11_lone : MethodName := ⟨RX11, "lone", "(III)I"⟩
abbrev cX11_drops : ByteArray := prog_13_method_56_code
def yX11_drops : MethodName := ⟨RX11, "drops", "(I)Z"⟩
abbrev cX11_thingOf : ByteArray := prog_13_method_57_code
def yX11_thingOf : MethodName := ⟨RX11, "thingOf", "(II)I"⟩
abbrev cX11_about : ByteArray := prog_13_method_58_code
def yX11_about : MethodName := ⟨RX11, "about", "(I)I"⟩
def RJx145de : String := "java/io/Serializable"
def TJx145de : u_T := fun k => match k with
  | _ => ("", "", "", false)
def tyJx145de : Nat → FieldType := fun k => match k with
  | _ => .int
abbrev wsJx145de0 : List Cond := u_ws RJx145de TJx145de 0
theorem nmJx145de : ∀ a, a < 0 → ∀ b, b < 0 → a ≠ b → (TJx145de a).2.1 ≠ (TJx145de b).2.1 := by decide +kernel
theorem tyJx145de_ok : ∀ k, k < 0 → parseFieldDescriptor (TJx145de k).2.2.1 = some (tyJx145de k) := by decide +kernel
def RJx8e188 : String := "java/lang/Cloneable"
def TJx8e188 : u_T := fun k => match k with
  | _ => ("", "", "", false)
def tyJx8e188 : Nat → FieldType := fun k => match k with
  | _ => .int
abbrev wsJx8e1880 : List Cond := u_ws RJx8e188 TJx8e188 0
theorem nmJx8e188 : ∀ a, a < 0 → ∀ b, b < 0 → a ≠ b → (TJx8e188 a).2.1 ≠ (TJx8e188 b).2.1 := by decide +kernel
theorem tyJx8e188_ok : ∀ k, k < 0 → parseFieldDescriptor (TJx8e188 k).2.2.1 = some (tyJx8e188 k) := by decide +kernel
def RJxab1ab : String := "java/lang/Iterable"
def TJxab1ab : u_T := fun k => match k with
  | _ => ("", "", "", false)
def tyJxab1ab : Nat → FieldType := fun k => match k with
  | _ => .int
abbrev wsJxab1ab0 : List Cond := u_ws RJxab1ab TJxab1ab 0
theorem nmJxab1ab : ∀ a, a < 0 → ∀ b, b < 0 → a ≠ b → (TJxab1ab a).2.1 ≠ (TJxab1ab b).2.1 := by decide +kernel
theorem tyJxab1ab_ok : ∀ k, k < 0 → parseFieldDescriptor (TJxab1ab k).2.2.1 = some (tyJxab1ab k) := by decide +kernel
def RJ9 : String := "java/lang/Math"
def TJ9 : u_T := fun k => match k with
  | _ => ("", "", "", false)
def tyJ9 : Nat → FieldType := fun k => match k with
  | _ => .int
abbrev wsJ90 : List Cond := u_ws RJ9 TJ9 0
theorem nmJ9 : ∀ a, a < 0 → ∀ b, b < 0 → a ≠ b → (TJ9 a).2.1 ≠ (TJ9 b).2.1 := by decide +kernel
theorem tyJ9_ok : ∀ k, k < 0 → parseFieldDescriptor (TJ9 k).2.2.1 = some (tyJ9 k) := by decide +kernel
abbrev cJ9_max_7cf53 : ByteArray := prog_17_method_65_code
def yJ9_max_7cf53 : MethodName := ⟨RJ9, "max", "(II)I"⟩
abbrev cJ9_min_7cf53 : ByteArray := prog_17_method_69_code
def yJ9_min_7cf53 : MethodName := ⟨RJ9, "min", "(II)I"⟩
def RJ10 : String := "java/lang/System"
def TJ10 : u_T := fun k => match k with
  | _ => ("", "", "", false)
def tyJ10 : Nat → FieldType := fun k => match k with
  | _ => .int
abbrev wsJ100 : List Cond := u_ws RJ10 TJ10 0
theorem nmJ10 : ∀ a, a < 0 → ∀ b, b < 0 → a ≠ b → (TJ10 a).2.1 ≠ (TJ10 b).2.1 := by decide +kernel
theorem tyJ10_ok : ∀ k, k < 0 → parseFieldDescriptor (TJ10 k).2.2.1 = some (tyJ10 k) := by decide +kernel
def RJxa1e45 : String := "java/util/AbstractCollection"
def TJxa1e45 : u_T := fun k => match k with
  | _ => ("", "", "", false)
def tyJxa1e45 : Nat → FieldType := fun k => match k with
  | _ => .int
abbrev wsJxa1e450 : List Cond := u_ws RJxa1e45 TJxa1e45 0
theorem nmJxa1e45 : ∀ a, a < 0 → ∀ b, b < 0 → a ≠ b → (TJxa1e45 a).2.1 ≠ (TJxa1e45 b).2.1 := by decide +kernel
theorem tyJxa1e45_ok : ∀ k, k < 0 → parseFieldDescriptor (TJxa1e45 k).2.2.1 = some (tyJxa1e45 k) := by decide +kernel
abbrev cJxa1e45_init_da8c8 : ByteArray := prog_19_method_1_code
def yJxa1e45_init_da8c8 : MethodName := ⟨RJxa1e45, "<init>", "()V"⟩
def RJxc12de : String := "java/util/AbstractList"
def TJxc12de : u_T := fun k => match k with
  | _ => ("", "", "", false)
def tyJxc12de : Nat → FieldType := fun k => match k with
  | _ => .int
abbrev wsJxc12de0 : List Cond := u_ws RJxc12de TJxc12de 0
theorem nmJxc12de : ∀ a, a < 0 → ∀ b, b < 0 → a ≠ b → (TJxc12de a).2.1 ≠ (TJxc12de b).2.1 := by decide +kernel
theorem tyJxc12de_ok : ∀ k, k < 0 → parseFieldDescriptor (TJxc12de k).2.2.1 = some (tyJxc12de k) := by decide +kernel
abbrev cJxc12de_init_da8c8 : ByteArray := prog_20_method_1_code
def yJxc12de_init_da8c8 : MethodName := ⟨RJxc12de, "<init>", "()V"⟩
def RJx4a65c : String := "java/util/ArrayList"
def TJx4a65c : u_T := fun k => match k with
  | 0 => ("java/util/AbstractList", "modCount", "I", false)
  | 1 => ("java/util/ArrayList", "elementData", "[Ljava/lang/Object;", false)
  | _ => ("java/util/ArrayList", "size", "I", false)
def tyJx4a65c : Nat → FieldType := fun k => match k with
  | 0 => .int
  | 1 => .array (.object "java/lang/Object")
  | _ => .int
abbrev wsJx4a65c0 : List Cond := u_ws RJx4a65c TJx4a65c 3
theorem nmJx4a65c : ∀ a, a < 3 → ∀ b, b < 3 → a ≠ b → (TJx4a65c a).2.1 ≠ (TJx4a65c b).2.1 := by decide +kernel
theorem tyJx4a65c_ok : ∀ k, k < 3 → parseFieldDescriptor (TJx4a65c k).2.2.1 = some (tyJx4a65c k) := by decide +kernel
abbrev cJx4a65c_init_da8c8 : ByteArray := prog_21_method_2_code
def yJx4a65c_init_da8c8 : MethodName := ⟨RJx4a65c, "<init>", "()V"⟩
abbrev cJx4a65c_grow_92f84 : ByteArray := prog_21_method_6_code
def yJx4a65c_grow_92f84 : MethodName := ⟨RJx4a65c, "grow", "(I)[Ljava/lang/Object;"⟩
abbrev cJx4a65c_grow_d5877 : ByteArray := prog_21_method_7_code
def yJx4a65c_grow_d5877 : MethodName := ⟨RJx4a65c, "grow", "()[Ljava/lang/Object;"⟩
abbrev cJx4a65c_size_8abf5 : ByteArray := prog_21_method_8_code
def yJx4a65c_size_8abf5 : MethodName := ⟨RJx4a65c, "size", "()I"⟩
abbrev cJx4a65c_elementData_915e3 : ByteArray := prog_21_method_18_code
def yJx4a65c_elementData_915e3 : MethodName := ⟨RJx4a65c, "elementData", "(I)Ljava/lang/Object;"⟩
abbrev cJx4a65c_get_915e3 : ByteArray := prog_21_method_20_code
def yJx4a65c_get_915e3 : MethodName := ⟨RJx4a65c, "get", "(I)Ljava/lang/Object;"⟩
abbrev cJx4a65c_add_72be8 : ByteArray := prog_21_method_24_code
def yJx4a65c_add_72be8 : MethodName := ⟨RJx4a65c, "add", "(Ljava/lang/Object;[Ljava/lang/Object;I)V"⟩
abbrev cJx4a65c_add_9ea2d : ByteArray := prog_21_method_25_code
def yJx4a65c_add_9ea2d : MethodName := ⟨RJx4a65c, "add", "(Ljava/lang/Object;)Z"⟩
abbrev cJx4a65c_add_7a177 : ByteArray := prog_21_method_26_code
def yJx4a65c_add_7a177 : MethodName := ⟨RJx4a65c, "add", "(ILjava/lang/Object;)V"⟩
abbrev cJx4a65c_remove_915e3 : ByteArray := prog_21_method_29_code
def yJx4a65c_remove_915e3 : MethodName := ⟨RJx4a65c, "remove", "(I)Ljava/lang/Object;"⟩
abbrev cJx4a65c_fastRemove_b59b0 : ByteArray := prog_21_method_39_code
def yJx4a65c_fastRemove_b59b0 : MethodName := ⟨RJx4a65c, "fastRemove", "([Ljava/lang/Object;I)V"⟩
abbrev cJx4a65c_rangeCheckForAdd_d00df : ByteArray := prog_21_method_45_code
def yJx4a65c_rangeCheckForAdd_d00df : MethodName := ⟨RJx4a65c, "rangeCheckForAdd", "(I)V"⟩
def RJ7 : String := "java/util/Arrays"
def TJ7 : u_T := fun k => match k with
  | _ => ("", "", "", false)
def tyJ7 : Nat → FieldType := fun k => match k with
  | _ => .int
abbrev wsJ70 : List Cond := u_ws RJ7 TJ7 0
theorem nmJ7 : ∀ a, a < 0 → ∀ b, b < 0 → a ≠ b → (TJ7 a).2.1 ≠ (TJ7 b).2.1 := by decide +kernel
theorem tyJ7_ok : ∀ k, k < 0 → parseFieldDescriptor (TJ7 k).2.2.1 = some (tyJ7 k) := by decide +kernel
abbrev cJ7_copyOf_1904c : ByteArray := prog_22_method_119_code
def yJ7_copyOf_1904c : MethodName := ⟨RJ7, "copyOf", "([Ljava/lang/Object;I)[Ljava/lang/Object;"⟩
abbrev cJ7_copyOf_6403c : ByteArray := prog_22_method_120_code
def yJ7_copyOf_6403c : MethodName := ⟨RJ7, "copyOf", "([Ljava/lang/Object;ILjava/lang/Class;)[Ljava/lang/Object;"⟩
def RJx5ef63 : String := "java/util/Collection"
def TJx5ef63 : u_T := fun k => match k with
  | _ => ("", "", "", false)
def tyJx5ef63 : Nat → FieldType := fun k => match k with
  | _ => .int
abbrev wsJx5ef630 : List Cond := u_ws RJx5ef63 TJx5ef63 0
theorem nmJx5ef63 : ∀ a, a < 0 → ∀ b, b < 0 → a ≠ b → (TJx5ef63 a).2.1 ≠ (TJx5ef63 b).2.1 := by decide +kernel
theorem tyJx5ef63_ok : ∀ k, k < 0 → parseFieldDescriptor (TJx5ef63 k).2.2.1 = some (tyJx5ef63 k) := by decide +kernel
def RJxbd725 : String := "java/util/List"
def TJxbd725 : u_T := fun k => match k with
  | _ => ("", "", "", false)
def tyJxbd725 : Nat → FieldType := fun k => match k with
  | _ => .int
abbrev wsJxbd7250 : List Cond := u_ws RJxbd725 TJxbd725 0
theorem nmJxbd725 : ∀ a, a < 0 → ∀ b, b < 0 → a ≠ b → (TJxbd725 a).2.1 ≠ (TJxbd725 b).2.1 := by decide +kernel
theorem tyJxbd725_ok : ∀ k, k < 0 → parseFieldDescriptor (TJxbd725 k).2.2.1 = some (tyJxbd725 k) := by decide +kernel
def RJ15 : String := "java/util/Objects"
def TJ15 : u_T := fun k => match k with
  | _ => ("", "", "", false)
def tyJ15 : Nat → FieldType := fun k => match k with
  | _ => .int
abbrev wsJ150 : List Cond := u_ws RJ15 TJ15 0
theorem nmJ15 : ∀ a, a < 0 → ∀ b, b < 0 → a ≠ b → (TJ15 a).2.1 ≠ (TJ15 b).2.1 := by decide +kernel
theorem tyJ15_ok : ∀ k, k < 0 → parseFieldDescriptor (TJ15 k).2.2.1 = some (tyJ15 k) := by decide +kernel
abbrev cJ15_checkIndex_7cf53 : ByteArray := prog_25_method_17_code
def yJ15_checkIndex_7cf53 : MethodName := ⟨RJ15, "checkIndex", "(II)I"⟩
def RJxf0a74 : String := "java/util/RandomAccess"
def TJxf0a74 : u_T := fun k => match k with
  | _ => ("", "", "", false)
def tyJxf0a74 : Nat → FieldType := fun k => match k with
  | _ => .int
abbrev wsJxf0a740 : List Cond := u_ws RJxf0a74 TJxf0a74 0
theorem nmJxf0a74 : ∀ a, a < 0 → ∀ b, b < 0 → a ≠ b → (TJxf0a74 a).2.1 ≠ (TJxf0a74 b).2.1 := by decide +kernel
theorem tyJxf0a74_ok : ∀ k, k < 0 → parseFieldDescriptor (TJxf0a74 k).2.2.1 = some (tyJxf0a74 k) := by decide +kernel
def RJxa66e6 : String := "java/util/SequencedCollection"
def TJxa66e6 : u_T := fun k => match k with
  | _ => ("", "", "", false)
def tyJxa66e6 : Nat → FieldType := fun k => match k with
  | _ => .int
abbrev wsJxa66e60 : List Cond := u_ws RJxa66e6 TJxa66e6 0
theorem nmJxa66e6 : ∀ a, a < 0 → ∀ b, b < 0 → a ≠ b → (TJxa66e6 a).2.1 ≠ (TJxa66e6 b).2.1 := by decide +kernel
theorem tyJxa66e6_ok : ∀ k, k < 0 → parseFieldDescriptor (TJxa66e6 k).2.2.1 = some (tyJxa66e6 k) := by decide +kernel
def RJ8 : String := "jdk/internal/util/ArraysSupport"
def TJ8 : u_T := fun k => match k with
  | _ => ("", "", "", false)
def tyJ8 : Nat → FieldType := fun k => match k with
  | _ => .int
abbrev wsJ80 : List Cond := u_ws RJ8 TJ8 0
theorem nmJ8 : ∀ a, a < 0 → ∀ b, b < 0 → a ≠ b → (TJ8 a).2.1 ≠ (TJ8 b).2.1 := by decide +kernel
theorem tyJ8_ok : ∀ k, k < 0 → parseFieldDescriptor (TJ8 k).2.2.1 = some (tyJ8 k) := by decide +kernel
abbrev cJ8_newLength_cabcc : ByteArray := prog_28_method_27_code
def yJ8_newLength_cabcc : MethodName := ⟨RJ8, "newLength", "(III)I"⟩
abbrev cJ8_hugeLength_7cf53 : ByteArray := prog_28_method_28_code
def yJ8_hugeLength_7cf53 : MethodName := ⟨RJ8, "hugeLength", "(II)I"⟩
def RJ3 : String := "jdk/internal/util/Preconditions"
def TJ3 : u_T := fun k => match k with
  | _ => ("", "", "", false)
def tyJ3 : Nat → FieldType := fun k => match k with
  | _ => .int
abbrev wsJ30 : List Cond := u_ws RJ3 TJ3 0
theorem nmJ3 : ∀ a, a < 0 → ∀ b, b < 0 → a ≠ b → (TJ3 a).2.1 ≠ (TJ3 b).2.1 := by decide +kernel
theorem tyJ3_ok : ∀ k, k < 0 → parseFieldDescriptor (TJ3 k).2.2.1 = some (tyJ3 k) := by decide +kernel
abbrev cJ3_checkIndex_8e157 : ByteArray := prog_29_method_11_code
def yJ3_checkIndex_8e157 : MethodName := ⟨RJ3, "checkIndex", "(IILjava/util/function/BiFunction;)I"⟩
def RL : String := "MadeMendedLaw"
abbrev cL_law : ByteArray := code
def yL_law : MethodName := ⟨RL, "law", "([I)Z"⟩
abbrev vwCl : List vw_C := [(RJx4a65c, TJx4a65c, 3), (RX0, TX0, 2), (RX1, TX1, 3), (RX2, TX2, 2), (RX3, TX3, 4), (RX4, TX4, 3), (RX5, TX5, 9), (RX6, TX6, 8), (RX7, TX7, 2), (RX8, TX8, 5), (RX9, TX9, 8), (RX10, TX10, 8), (RX11, TX11, 52)]
end
section
/-! the words that go along by the machine's tables, and are no good words -/
def aWk : Cond → Bool
  | .castable .. => true
  | .methodLinkNest .. => true
  | .declares _ => true
  | .arrayOver (.object _) => true
  | _ => false
theorem aNw_warm {s U : State} (hW : s.WarmedH U.vm) {w : Cond} (hw : aWk w = true) (h : va_Nw w s) : va_Nw w U := by
  cases w with
  | castable => exact va_Nw.warmC hW h
  | methodLinkNest => exact va_Nw.warmM hW h
  | declares => exact va_Nw.warmD hW h
  | arrayOver t => cases t <;> first | (exact va_AO.moved hW.alike h) | (simp [aWk] at hw)
  | _ => simp [aWk] at hw
/-- a method: its name, its bytes, how many variables, its answer's type -/
abbrev aM : Type := MethodName × ByteArray × Nat × Option FieldType
/-- the constants of a run: the numbers of classes and fields, of array kinds, the first free address, the script's address, the empty list's array, the mirror, the script's length and ints -/
abbrev aG : Type := va_G × (Nat → ClassId) × Nat × Nat × Nat × Nat × Nat × (Nat → Int32)
abbrev gD (G : aG) : va_G := G.1
abbrev gC (G : aG) : Nat → ClassId := G.2.1
abbrev gB (G : aG) : Nat := G.2.2.1
abbrev gb (G : aG) : Nat := G.2.2.2.1
abbrev ge (G : aG) : Nat := G.2.2.2.2.1
abbrev gm (G : aG) : Nat := G.2.2.2.2.2.1
abbrev gL (G : aG) : Nat := G.2.2.2.2.2.2.1
abbrev gX (G : aG) : Nat → Int32 := G.2.2.2.2.2.2.2
/-- the address of the cell that has number a here: 0 the script, 1 the empty array, 2 the mirror -/
def ad (G : aG) (a : Nat) : Nat := if a = 0 then gb G else if a = 1 then ge G else if a = 2 then gm G else gB G + (a - 3)
def tv (G : aG) : Value → Value
  | .ref a => .ref (ad G a)
  | v => v
def rv : Option Nat → Value
  | none => .null
  | some a => .ref a
theorem tv_rv (G : aG) (o : Option Nat) : tv G (rv o) = va_rf (o.map (ad G)) := by cases o <;> rfl
theorem ad_3 (G : aG) {a : Nat} (h : 3 ≤ a) : ad G a = gB G + (a - 3) := by
  unfold ad
  rw [if_neg (by omega), if_neg (by omega), if_neg (by omega)]
/-- the heap as fields by their numbers and addresses: how many cells; the kind of a cell; int fields; references; lengths; ints of rows; references of rows -/
abbrev aH : Type := Nat × (Nat → Nat) × (Nat → Nat → Int32) × (Nat → Nat → Option Nat) × (Nat → Nat) × (Nat → Nat → Int32) × (Nat → Nat → Option Nat)
def hN (h : aH) : Nat := h.1
def hK (h : aH) : Nat → Nat := h.2.1
def hI (h : aH) : Nat → Nat → Int32 := h.2.2.1
def hR (h : aH) : Nat → Nat → Option Nat := h.2.2.2.1
def hL (h : aH) : Nat → Nat := h.2.2.2.2.1
def hX (h : aH) : Nat → Nat → Int32 := h.2.2.2.2.2.1
def hY (h : aH) : Nat → Nat → Option Nat := h.2.2.2.2.2.2
def up1 {α : Type} (f : Nat → α) (a : Nat) (v : α) : Nat → α := fun b => if b = a then v else f b
def up2 {α : Type} (f : Nat → Nat → α) (k a : Nat) (v : α) : Nat → Nat → α := fun k' b => if k' = k then (if b = a then v else f k' b) else f k' b
def sI (h : aH) (k a : Nat) (v : Int32) : aH := (hN h, hK h, up2 (hI h) k a v, hR h, hL h, hX h, hY h)
def sR (h : aH) (k a : Nat) (v : Option Nat) : aH := (hN h, hK h, hI h, up2 (hR h) k a v, hL h, hX h, hY h)
def sX (h : aH) (a j : Nat) (v : Int32) : aH := (hN h, hK h, hI h, hR h, hL h, up2 (hX h) a j v, hY h)
def sY (h : aH) (a j : Nat) (v : Option Nat) : aH := (hN h, hK h, hI h, hR h, hL h, hX h, up2 (hY h) a j v)
def sXs (h : aH) (a : Nat) (f : Nat → Int32) : aH := (hN h, hK h, hI h, hR h, hL h, up1 (hX h) a f, hY h)
def sYs (h : aH) (a : Nat) (f : Nat → Option Nat) : aH := (hN h, hK h, hI h, hR h, hL h, hX h, up1 (hY h) a f)
/-- a new object of a kind: its number is hN h + 3 -/
def nO (h : aH) (ci : Nat) : aH := (hN h + 1, up1 (hK h) (hN h + 3) ci, fun k b => if b = hN h + 3 then 0 else hI h k b, fun k b => if b = hN h + 3 then none else hR h k b, hL h, hX h, hY h)
/-- a new row of a kind -/
def nA (h : aH) (kd n : Nat) : aH := (hN h + 1, up1 (hK h) (hN h + 3) kd, hI h, hR h, up1 (hL h) (hN h + 3) n, up1 (hX h) (hN h + 3) (fun _ => 0), up1 (hY h) (hN h + 3) (fun _ => none))
/-- the types of the fields of the kind ci -/
def fT : Nat → Nat → FieldType := fun ci => match ci with
  | 0 => tyJx4a65c
  | 1 => tyX0
  | 2 => tyX1
  | 3 => tyX2
  | 4 => tyX3
  | 5 => tyX4
  | 6 => tyX5
  | 7 => tyX6
  | 8 => tyX7
  | 9 => tyX8
  | 10 => tyX9
  | 11 => tyX10
  | _ => tyX11
def rfT (ty : FieldType) : Bool := match ty with
  | .object _ => true
  | .array _ => true
  | _ => false
def fn (ci : Nat) : Nat := match vwCl[ci]? with
  | some r => r.2.2
  | none => 0
def fv (G : aG) (h : aH) (ci j a : Nat) : Value := if rfT (fT ci j) = true then va_rf ((hR h (64 * ci + j) a).map (ad G)) else .int (hI h (64 * ci + j) a)
def aCl (G : aG) (h : aH) (a : Nat) : va_E :=
  if hK h a < 13 then .inr (hK h a, (List.range (fn (hK h a))).map (fun j => fv G h (hK h a) j a))
  else if hK h a < 15 then .inl (gC G (hK h a), hL h a, .inl (hX h a))
  else .inl (gC G (hK h a), hL h a, .inr (.inr (.inr (.inr (fun j => (hY h a j).map (ad G))))))
def wl (G : aG) (h : aH) : va_W := (List.range (hN h)).map (fun i => (gB G + i, aCl G h (i + 3)))
theorem wl_at (G : aG) (h : aH) (i : Nat) : (wl G h)[i]? = if i < hN h then some (gB G + i, aCl G h (i + 3)) else none := by
  unfold wl
  rw [List.getElem?_map]
  by_cases hi : i < hN h
  · rw [List.getElem?_range hi, if_pos hi]; rfl
  · rw [List.getElem?_eq_none (by simpa using hi), if_neg hi]; rfl
theorem wl_get (G : aG) {h : aH} {a : Nat} (h3 : 3 ≤ a) (hn : a < hN h + 3) : (wl G h)[a - 3]? = some (ad G a, aCl G h a) := by
  rw [wl_at, if_pos (by omega), ad_3 G h3, show a - 3 + 3 = a by omega]
theorem wl_len (G : aG) (h : aH) : (wl G h).length = hN h := by simp [wl]
theorem wl_set (G : aG) {h h' : aH} {a : Nat} (h3 : 3 ≤ a) (hn : a < hN h + 3) (e : hN h' = hN h) (o : ∀ b, b ≠ a → aCl G h' b = aCl G h b) : (wl G h).set (a - 3) (ad G a, aCl G h' a) = wl G h' := by
  apply List.ext_getElem?
  intro i
  rw [List.getElem?_set, wl_at, wl_at, wl_len, e]
  by_cases hi : a - 3 = i
  · subst hi
    rw [if_pos rfl, if_pos (by omega), if_pos (by omega), ad_3 G h3, show a - 3 + 3 = a by omega]
  · rw [if_neg hi]
    by_cases hl : i < hN h
    · rw [if_pos hl, if_pos hl, o (i + 3) (by omega)]
    · rw [if_neg hl, if_neg hl]
theorem wl_D (G : aG) (h : aH) : va_D (fun q => gB G ≤ q) (wl G h) := by
  refine ⟨fun i j p q hi hj e => ?_, fun k q hk => ?_⟩
  · rw [wl_at] at hi hj
    by_cases h1 : i < hN h
    · by_cases h2 : j < hN h
      · rw [if_pos h1] at hi; rw [if_pos h2] at hj
        cases hi; cases hj
        simp only at e
        omega
      · rw [if_neg h2] at hj; cases hj
    · rw [if_neg h1] at hi; cases hi
  · rw [wl_at] at hk
    by_cases h1 : k < hN h
    · rw [if_pos h1] at hk
      cases hk
      exact Nat.le_add_right _ _
    · rw [if_neg h1] at hk; cases hk
theorem wl_push (G : aG) {h h' : aH} (e : hN h' = hN h + 1) (o : ∀ b, b < hN h + 3 → aCl G h' b = aCl G h b) : wl G h ++ [(gB G + hN h, aCl G h' (hN h + 3))] = wl G h' := by
  apply List.ext_getElem?
  intro i
  rw [List.getElem?_append, wl_at, wl_at, wl_len, e]
  by_cases hl : i < hN h
  · rw [if_pos hl, if_pos hl, if_pos (by omega), o (i + 3) (by omega)]
  · rw [if_neg hl]
    by_cases h2 : i = hN h
    · subst h2
      rw [if_pos (by omega)]
      simp
    · rw [if_neg (by omega)]
      rw [List.getElem?_eq_none (by simp; omega)]
/-- what the machine's tables and first cells hold -/
def aTy (G : aG) : List (ClassId × FieldType) := [(gC G 13, .int), (gC G 14, .boolean), (gC G 15, .object "java/lang/Object"), (gC G 16, .object "MadeMended$Piece"), (gC G 17, .object "MadeMended$Rule"), (gC G 18, .object "MadeMended$Thing")]
def aWd (G : aG) (s : State) (H : Heap) : Prop := va_K (gD G) vwCl (aTy G) s ∧ va_X (gb G) (gL G) (gX G) s H ∧ gb G < gB G ∧ va_Z "java/util/ArrayList" "DEFAULTCAPACITY_EMPTY_ELEMENTDATA" "[Ljava/lang/Object;" (.ref (ge G)) (fun q => gB G ≤ q) s H ∧ va_T (.object "java/lang/Object") (ge G) 0 (fun _ => .null) (fun q => gB G ≤ q) s H ∧ va_Mi "[Ljava/lang/Object;" (gm G) s ∧ (∀ w ∈ lw_tbl, aWk w = true → va_Nw w s) ∧ gB G ≤ H.size ∧ ge G < gB G
theorem aWd.warm {G : aG} {s U : State} {H H1 : Heap} (hW : s.WarmedH U.vm) (hz : gB G ≤ H1.size) (hq : ∀ q, q < gB G → H1[q]? = H[q]?) (h : aWd G s H) : aWd G U H1 := by
  obtain ⟨h1, h2, h3, h4, h5, h6, h7, h8, h9⟩ := h
  refine ⟨va_K.moved hW.alike h1, (h2.kept (hq _ h3)).moved hW.alike, h3, (h4.kept (fun a _ ha => hq a (by omega))).moved hW.alike, (h5.kept (fun a _ ha => hq a (by omega))).moved hW.alike, h6.moved hW.alike, fun w hw hk => aNw_warm hW hk (h7 w hw hk), hz, h9⟩
end
section
/-! the machine at a place of a method, over the heap by fields -/
def aTs : List Cond := lw_tbl.filter goodWord
theorem aTs_mem {w : Cond} (i : Nat) (h : lw_tbl[i]? = some w) (hg : goodWord w = true) : w ∈ aTs := List.mem_filter.mpr ⟨List.mem_of_getElem? h, hg⟩
def aRp (G : aG) (h : aH) (H : Heap) : Prop := H.size = gB G + hN h ∧ va_P (gD G) vwCl (wl G h) H ∧ ∀ a, hK h a ≠ 99 → 3 ≤ a ∧ a < hN h + 3
def aQ (G : aG) (Q : Option Value → aH → Prop) : Array Value → State → Outcome → State → Prop := fun _ s0 oc t => ∃ (v : Option Value) (h' : aH), oc = .returned (v.map (tv G)) ∧ Q v h' ∧ aRp G h' t.heap ∧ (∀ q, q < gB G → t.heap[q]? = s0.heap[q]?) ∧ s0.heap.size ≤ t.heap.size
def okv : Value → Bool
  | .int _ => true
  | .ref _ => true
  | .null => true
  | _ => false
theorem okv_cat (G : aG) {v : Value} (h : okv v = true) : (tv G v).category = 1 := by cases v <;> first | rfl | (simp [okv] at h)
def aLv (G : aG) (lv : Array Slot) (n : Nat) (ls : List Value) : Prop := lv.size = n ∧ lv_wf lv ∧ ls.length ≤ n ∧ ∀ (i : Nat) (v : Value), ls[i]? = some v → okv v = true → lv[i]? = some (.val (tv G v))
def lp (G : aG) (ls : List Value) : List (Nat × Value) := (List.range ls.length).filterMap (fun i => match ls[i]? with
  | some v => if okv v = true then some (i, tv G v) else none
  | none => none)
theorem lp_mem {G : aG} {ls : List Value} {q : Nat × Value} : q ∈ lp G ls ↔ ∃ v, ls[q.1]? = some v ∧ okv v = true ∧ q.2 = tv G v := by
  unfold lp
  rw [List.mem_filterMap]
  constructor
  · rintro ⟨i, hi, hq⟩
    cases hv : ls[i]? with
    | none => rw [hv] at hq; cases hq
    | some v =>
      rw [hv] at hq
      by_cases ho : okv v = true
      · simp only [ho, if_true] at hq
        cases hq
        exact ⟨v, hv, ho, rfl⟩
      · simp only [ho] at hq
        cases hq
  · rintro ⟨v, hv, ho, hq⟩
    refine ⟨q.1, List.mem_range.mpr (List.getElem?_eq_some_iff.mp hv).1, ?_⟩
    rw [hv]
    simp only [ho, if_true]
    rw [← hq]
theorem aLv.has {G : aG} {lv : Array Slot} {n : Nat} {ls : List Value} (h : aLv G lv n ls) : lv_has lv n (lp G ls) := by
  refine ⟨h.1, h.2.1, fun q hq => ?_⟩
  obtain ⟨v, h1, h2, h3⟩ := lp_mem.mp hq
  rw [h3]
  exact h.2.2.2 q.1 v h1 h2
theorem aLv.put {G : aG} {lv lv' : Array Slot} {n i : Nat} {ls : List Value} {v : Value} (h : aLv G lv n ls) (hv : okv v = true) (hs : lv_has lv' n ((i, tv G v) :: (lp G ls).filter (fun q => !(q.1 == i) && !(q.1 + 1 == i && q.2.category == 2)))) : aLv G lv' n (ls.set i v) := by
  refine ⟨hs.1, hs.2.1, by rw [List.length_set]; exact h.2.2.1, fun j w hj hw => ?_⟩
  rw [List.getElem?_set] at hj
  by_cases hi : i = j
  · subst hi
    rw [if_pos rfl] at hj
    split at hj
    · cases hj
      exact hs.2.2 (i, tv G v) List.mem_cons_self
    · cases hj
  · rw [if_neg hi] at hj
    refine hs.2.2 (j, tv G w) (List.mem_cons_of_mem _ (List.mem_filter.mpr ⟨lp_mem.mpr ⟨w, hj, hw, rfl⟩, ?_⟩))
    have h1 : (tv G w).category = 1 := okv_cat G hw
    simp only [h1]
    simp [Ne.symm hi]
def aCx (G : aG) (M : aM) (p : Program) (s : State) (m : MethodId) (args : Array Value) (meth : Method) (c : Code) : Prop :=
  p.tables.exec = Jvm.exec ∧ c.code = M.2.1 ∧ c.maxLocals = M.2.2.1 ∧ meth.sig.returnType = M.2.2.2 ∧ s.vm.findClass M.1.cls = some m.cls ∧ (∀ w ∈ aTs, w.before args s = true) ∧ meth.locks = false ∧ (M.1.name = "<init>" → meth.name = "<init>") ∧ aWd G s s.heap
def Ev (l : Launch) (G : aG) (d mc ms : Nat) (M : aM) (pc : Nat) (ls st : List Value) (h : aH) (Q : Option Value → aH → Prop) : Prop :=
  ∀ (p : Program) (e : Env) (R : Room) (s : State) (m : MethodId) (args : Array Value) (below : List Frame) (meth : Method) (c : Code) (H : Heap) (locs : List Loc) (cells slots : Nat) (lv : Array Slot),
    aCx G M p s m args meth c → d ≤ R.frames → 40 * d ≤ R.locals → cells + mc ≤ R.cells → slots + ms ≤ R.slots → aRp G h H → va_S (fun q => gB G ≤ q) s.heap H locs → aLv G lv M.2.2.1 ls →
    W p l e R s m args below meth c H locs cells slots (MQ below (aQ G Q) args s R.cells R.slots (fun q => gB G ≤ q)) (F0 m pc lv (st.map (tv G)))
section EV
variable {l : Launch} {G : aG} {d mc ms : Nat} {M : aM} {pc : Nat} {ls st : List Value} {h : aH} {Q : Option Value → aH → Prop}
theorem Ev.wide {mc' ms' : Nat} (h1 : mc' ≤ mc) (h2 : ms' ≤ ms) (k : Ev l G d mc' ms' M pc ls st h Q) : Ev l G d mc ms M pc ls st h Q :=
  fun p e R s m args below meth c H locs cells slots lv C a1 a2 a3 a4 hP hS hl => k p e R s m args below meth c H locs cells slots lv C a1 a2 (by omega) (by omega) hP hS hl
theorem Ev.deep {d' : Nat} (h1 : d' ≤ d) (k : Ev l G d' mc ms M pc ls st h Q) : Ev l G d mc ms M pc ls st h Q :=
  fun p e R s m args below meth c H locs cells slots lv C a1 a2 a3 a4 hP hS hl => k p e R s m args below meth c H locs cells slots lv C (by omega) (by omega) a3 a4 hP hS hl
theorem Ev.post {Q' : Option Value → aH → Prop} (hq : ∀ v h', Q' v h' → Q v h') (k : Ev l G d mc ms M pc ls st h Q') : Ev l G d mc ms M pc ls st h Q := by
  intro p e R s m args below meth c H locs cells slots lv C a1 a2 a3 a4 hP hS hl T hT X
  obtain ⟨t, b1, o, b2, b3, ⟨v, h', b4, b5, b6⟩, b7⟩ := k p e R s m args below meth c H locs cells slots lv C a1 a2 a3 a4 hP hS hl T hT X
  exact ⟨t, b1, o, b2, b3, ⟨v, h', b4, hq v h' b5, b6⟩, b7⟩
theorem Ev_aload_n {k : Fin 4} {v : Value} (hdg : decode M.2.1 pc = .ok (.aload_n k, 1)) (hv : ls[(k : Nat)]? = some v) (hr : (v = .null ∨ ∃ a, v = .ref a)) (kk : Ev l G d mc ms M (pc + 1) ls (v :: st) h Q) : Ev l G d mc ms M pc ls st h Q := by
  intro p e R s m args below meth c H locs cells slots lv C a1 a2 a3 a4 hP hS hl
  rcases hr with rfl | ⟨a, rfl⟩
  · exact lv_aload_nN C.1 C.2.1 hdg rfl (hl.2.2.2 _ _ hv rfl) (kk p e R s m args below meth c H locs cells slots lv C a1 a2 a3 a4 hP hS hl)
  · exact lv_aload_n C.1 C.2.1 hdg rfl (hl.2.2.2 _ _ hv rfl) (kk p e R s m args below meth c H locs cells slots lv C a1 a2 a3 a4 hP hS hl)
theorem Ev_aload {k : Nat} {v : Value} (hdg : decode M.2.1 pc = .ok (.aload k, 2)) (hv : ls[(k : Nat)]? = some v) (hr : (v = .null ∨ ∃ a, v = .ref a)) (kk : Ev l G d mc ms M (pc + 2) ls (v :: st) h Q) : Ev l G d mc ms M pc ls st h Q := by
  intro p e R s m args below meth c H locs cells slots lv C a1 a2 a3 a4 hP hS hl
  rcases hr with rfl | ⟨a, rfl⟩
  · exact lv_aloadN C.1 C.2.1 hdg (hl.2.2.2 _ _ hv rfl) (kk p e R s m args below meth c H locs cells slots lv C a1 a2 a3 a4 hP hS hl)
  · exact lv_aload C.1 C.2.1 hdg (hl.2.2.2 _ _ hv rfl) (kk p e R s m args below meth c H locs cells slots lv C a1 a2 a3 a4 hP hS hl)
theorem Ev_iload_n {k : Fin 4} {x : Int32} (hdg : decode M.2.1 pc = .ok (.iload_n k, 1)) (hv : ls[(k : Nat)]? = some (.int x)) (kk : Ev l G d mc ms M (pc + 1) ls (.int x :: st) h Q) : Ev l G d mc ms M pc ls st h Q := by
  intro p e R s m args below meth c H locs cells slots lv C a1 a2 a3 a4 hP hS hl
  exact lv_iload_n C.1 C.2.1 hdg rfl (hl.2.2.2 _ _ hv rfl) (kk p e R s m args below meth c H locs cells slots lv C a1 a2 a3 a4 hP hS hl)
theorem Ev_iload {k : Nat} {x : Int32} (hdg : decode M.2.1 pc = .ok (.iload k, 2)) (hv : ls[k]? = some (.int x)) (kk : Ev l G d mc ms M (pc + 2) ls (.int x :: st) h Q) : Ev l G d mc ms M pc ls st h Q := by
  intro p e R s m args below meth c H locs cells slots lv C a1 a2 a3 a4 hP hS hl
  exact lv_iload C.1 C.2.1 hdg (hl.2.2.2 _ _ hv rfl) (kk p e R s m args below meth c H locs cells slots lv C a1 a2 a3 a4 hP hS hl)
theorem Ev_istore_n {k : Fin 4} {x : Int32} (hdg : decode M.2.1 pc = .ok (.istore_n k, 1)) (hk : (k : Nat) < M.2.2.1) (kk : Ev l G d mc ms M (pc + 1) (ls.set k (.int x)) st h Q) : Ev l G d mc ms M pc ls (.int x :: st) h Q := by
  intro p e R s m args below meth c H locs cells slots lv C a1 a2 a3 a4 hP hS hl
  exact lv_istore_n C.1 C.2.1 hdg rfl hl.has hk rfl (fun lv' hl' => kk p e R s m args below meth c H locs cells slots lv' C a1 a2 a3 a4 hP hS (hl.put (v := .int x) rfl hl'))
theorem Ev_istore {k : Nat} {x : Int32} (hdg : decode M.2.1 pc = .ok (.istore k, 2)) (hk : (k : Nat) < M.2.2.1) (kk : Ev l G d mc ms M (pc + 2) (ls.set k (.int x)) st h Q) : Ev l G d mc ms M pc ls (.int x :: st) h Q := by
  intro p e R s m args below meth c H locs cells slots lv C a1 a2 a3 a4 hP hS hl
  exact lv_istore C.1 C.2.1 hdg hl.has hk rfl (fun lv' hl' => kk p e R s m args below meth c H locs cells slots lv' C a1 a2 a3 a4 hP hS (hl.put (v := .int x) rfl hl'))
theorem Ev_astore_n {k : Fin 4} {v : Value} (hdg : decode M.2.1 pc = .ok (.astore_n k, 1)) (hk : (k : Nat) < M.2.2.1) (hr : (v = .null ∨ ∃ a, v = .ref a)) (kk : Ev l G d mc ms M (pc + 1) (ls.set k v) st h Q) : Ev l G d mc ms M pc ls (v :: st) h Q := by
  intro p e R s m args below meth c H locs cells slots lv C a1 a2 a3 a4 hP hS hl
  rcases hr with rfl | ⟨a, rfl⟩
  · exact lv_astore_nN C.1 C.2.1 hdg rfl hl.has hk rfl (fun lv' hl' => kk p e R s m args below meth c H locs cells slots lv' C a1 a2 a3 a4 hP hS (hl.put (v := .null) rfl hl'))
  · exact lv_astore_n C.1 C.2.1 hdg rfl hl.has hk rfl (fun lv' hl' => kk p e R s m args below meth c H locs cells slots lv' C a1 a2 a3 a4 hP hS (hl.put (v := .ref a) rfl hl'))
theorem Ev_astore {k : Nat} {v : Value} (hdg : decode M.2.1 pc = .ok (.astore k, 2)) (hk : (k : Nat) < M.2.2.1) (hr : (v = .null ∨ ∃ a, v = .ref a)) (kk : Ev l G d mc ms M (pc + 2) (ls.set k v) st h Q) : Ev l G d mc ms M pc ls (v :: st) h Q := by
  intro p e R s m args below meth c H locs cells slots lv C a1 a2 a3 a4 hP hS hl
  rcases hr with rfl | ⟨a, rfl⟩
  · exact lv_astoreN C.1 C.2.1 hdg hl.has hk rfl (fun lv' hl' => kk p e R s m args below meth c H locs cells slots lv' C a1 a2 a3 a4 hP hS (hl.put (v := .null) rfl hl'))
  · exact lv_astore C.1 C.2.1 hdg hl.has hk rfl (fun lv' hl' => kk p e R s m args below meth c H locs cells slots lv' C a1 a2 a3 a4 hP hS (hl.put (v := .ref a) rfl hl'))
theorem Ev_iinc {k : Nat} {n : Int} {x v : Int32} (hdg : decode M.2.1 pc = .ok (.iinc k n, 3)) (hk : (k : Nat) < M.2.2.1) (hx : ls[k]? = some (.int x)) (hv : x + Int32.ofInt n = v) (kk : Ev l G d mc ms M (pc + 3) (ls.set k (.int v)) st h Q) : Ev l G d mc ms M pc ls st h Q := by
  intro p e R s m args below meth c H locs cells slots lv C a1 a2 a3 a4 hP hS hl
  obtain ⟨q, hq⟩ := List.getElem?_of_mem (lp_mem.mpr ⟨.int x, hx, rfl, rfl⟩ : (k, Value.int x) ∈ lp G ls)
  exact lv_iinc C.1 C.2.1 hdg hl.has (k := q) hq hv hk rfl (fun lv' hl' => kk p e R s m args below meth c H locs cells slots lv' C a1 a2 a3 a4 hP hS (hl.put (v := .int v) rfl hl'))
end EV
end
section
section EV
variable {l : Launch} {G : aG} {d mc ms : Nat} {M : aM} {pc : Nat} {ls st : List Value} {h : aH} {Q : Option Value → aH → Prop}

theorem Ev_iconst {n : Int} {v : Int32} (hdg : decode M.2.1 pc = .ok (.iconst n, 1)) (hv : Int32.ofInt n = v) (kk : Ev l G d mc ms M (pc + 1) ls (.int v :: st) h Q) : Ev l G d mc ms M pc ls st h Q := by
  intro p e R s m args below meth c H locs cells slots lv C a1 a2 a3 a4 hP hS hl
  exact lv_iconst C.1 C.2.1 hdg hv (kk p e R s m args below meth c H locs cells slots lv C a1 a2 a3 a4 hP hS hl)

theorem Ev_bipush {n : Int} {v : Int32} (hdg : decode M.2.1 pc = .ok (.bipush n, 2)) (hv : (Int8.ofInt n).toInt32 = v) (kk : Ev l G d mc ms M (pc + 2) ls (.int v :: st) h Q) : Ev l G d mc ms M pc ls st h Q := by
  intro p e R s m args below meth c H locs cells slots lv C a1 a2 a3 a4 hP hS hl
  exact lv_bipush C.1 C.2.1 hdg hv (kk p e R s m args below meth c H locs cells slots lv C a1 a2 a3 a4 hP hS hl)

theorem Ev_sipush {n : Int} {v : Int32} (hdg : decode M.2.1 pc = .ok (.sipush n, 3)) (hv : (Int16.ofInt n).toInt32 = v) (kk : Ev l G d mc ms M (pc + 3) ls (.int v :: st) h Q) : Ev l G d mc ms M pc ls st h Q := by
  intro p e R s m args below meth c H locs cells slots lv C a1 a2 a3 a4 hP hS hl
  exact lv_sipush C.1 C.2.1 hdg hv (kk p e R s m args below meth c H locs cells slots lv C a1 a2 a3 a4 hP hS hl)

theorem Ev_null (hdg : decode M.2.1 pc = .ok (.aconst_null, 1)) (kk : Ev l G d mc ms M (pc + 1) ls (.null :: st) h Q) : Ev l G d mc ms M pc ls st h Q := by
  intro p e R s m args below meth c H locs cells slots lv C a1 a2 a3 a4 hP hS hl
  exact lv_null C.1 C.2.1 hdg (kk p e R s m args below meth c H locs cells slots lv C a1 a2 a3 a4 hP hS hl)

theorem Ev_iadd {x y : Int32} (hdg : decode M.2.1 pc = .ok (.iadd, 1)) (kk : Ev l G d mc ms M (pc + 1) ls (.int (x + y) :: st) h Q) : Ev l G d mc ms M pc ls (.int y :: .int x :: st) h Q := by
  intro p e R s m args below meth c H locs cells slots lv C a1 a2 a3 a4 hP hS hl
  exact lv_iadd C.1 C.2.1 hdg (kk p e R s m args below meth c H locs cells slots lv C a1 a2 a3 a4 hP hS hl)

theorem Ev_isub {x y : Int32} (hdg : decode M.2.1 pc = .ok (.isub, 1)) (kk : Ev l G d mc ms M (pc + 1) ls (.int (x - y) :: st) h Q) : Ev l G d mc ms M pc ls (.int y :: .int x :: st) h Q := by
  intro p e R s m args below meth c H locs cells slots lv C a1 a2 a3 a4 hP hS hl
  exact lv_isub C.1 C.2.1 hdg (kk p e R s m args below meth c H locs cells slots lv C a1 a2 a3 a4 hP hS hl)

theorem Ev_imul {x y : Int32} (hdg : decode M.2.1 pc = .ok (.imul, 1)) (kk : Ev l G d mc ms M (pc + 1) ls (.int (x * y) :: st) h Q) : Ev l G d mc ms M pc ls (.int y :: .int x :: st) h Q := by
  intro p e R s m args below meth c H locs cells slots lv C a1 a2 a3 a4 hP hS hl
  exact lv_imul C.1 C.2.1 hdg (kk p e R s m args below meth c H locs cells slots lv C a1 a2 a3 a4 hP hS hl)

theorem Ev_iand {x y : Int32} (hdg : decode M.2.1 pc = .ok (.iand, 1)) (kk : Ev l G d mc ms M (pc + 1) ls (.int (x &&& y) :: st) h Q) : Ev l G d mc ms M pc ls (.int y :: .int x :: st) h Q := by
  intro p e R s m args below meth c H locs cells slots lv C a1 a2 a3 a4 hP hS hl
  exact lv_iand C.1 C.2.1 hdg (kk p e R s m args below meth c H locs cells slots lv C a1 a2 a3 a4 hP hS hl)

theorem Ev_ishr {x y : Int32} (hdg : decode M.2.1 pc = .ok (.ishr, 1)) (kk : Ev l G d mc ms M (pc + 1) ls (.int (x >>> (y &&& 31)) :: st) h Q) : Ev l G d mc ms M pc ls (.int y :: .int x :: st) h Q := by
  intro p e R s m args below meth c H locs cells slots lv C a1 a2 a3 a4 hP hS hl
  exact lv_ishr C.1 C.2.1 hdg (kk p e R s m args below meth c H locs cells slots lv C a1 a2 a3 a4 hP hS hl)

theorem Ev_iushr {x y : Int32} (hdg : decode M.2.1 pc = .ok (.iushr, 1)) (kk : Ev l G d mc ms M (pc + 1) ls (.int ((x.toUInt32 >>> (y.toUInt32 &&& Int32.toUInt32 31)).toInt32) :: st) h Q) : Ev l G d mc ms M pc ls (.int y :: .int x :: st) h Q := by
  intro p e R s m args below meth c H locs cells slots lv C a1 a2 a3 a4 hP hS hl
  exact lv_iushr C.1 C.2.1 hdg rfl (kk p e R s m args below meth c H locs cells slots lv C a1 a2 a3 a4 hP hS hl)

theorem Ev_idiv {x y : Int32} (hdg : decode M.2.1 pc = .ok (.idiv, 1)) (hne : ¬ y = 0) (kk : Ev l G d mc ms M (pc + 1) ls (.int (x / y) :: st) h Q) : Ev l G d mc ms M pc ls (.int y :: .int x :: st) h Q := by
  intro p e R s m args below meth c H locs cells slots lv C a1 a2 a3 a4 hP hS hl
  exact lv_idiv C.1 C.2.1 hdg hne (kk p e R s m args below meth c H locs cells slots lv C a1 a2 a3 a4 hP hS hl)

theorem Ev_irem {x y : Int32} (hdg : decode M.2.1 pc = .ok (.irem, 1)) (hne : ¬ y = 0) (kk : Ev l G d mc ms M (pc + 1) ls (.int (x - x / y * y) :: st) h Q) : Ev l G d mc ms M pc ls (.int y :: .int x :: st) h Q := by
  intro p e R s m args below meth c H locs cells slots lv C a1 a2 a3 a4 hP hS hl
  exact lv_irem C.1 C.2.1 hdg hne (kk p e R s m args below meth c H locs cells slots lv C a1 a2 a3 a4 hP hS hl)

theorem Ev_dup {v : Value} (hdg : decode M.2.1 pc = .ok (.dup, 1)) (hv : okv v = true) (kk : Ev l G d mc ms M (pc + 1) ls (v :: v :: st) h Q) : Ev l G d mc ms M pc ls (v :: st) h Q := by
  intro p e R s m args below meth c H locs cells slots lv C a1 a2 a3 a4 hP hS hl
  exact lv_dup C.1 C.2.1 hdg (okv_cat G hv) (kk p e R s m args below meth c H locs cells slots lv C a1 a2 a3 a4 hP hS hl)

theorem Ev_pop {v : Value} (hdg : decode M.2.1 pc = .ok (.pop, 1)) (hv : okv v = true) (kk : Ev l G d mc ms M (pc + 1) ls st h Q) : Ev l G d mc ms M pc ls (v :: st) h Q := by
  intro p e R s m args below meth c H locs cells slots lv C a1 a2 a3 a4 hP hS hl
  exact lv_pop C.1 C.2.1 hdg (okv_cat G hv) (kk p e R s m args below meth c H locs cells slots lv C a1 a2 a3 a4 hP hS hl)

theorem Ev_dup_x1 {v w : Value} (hdg : decode M.2.1 pc = .ok (.dup_x1, 1)) (hv : okv v = true) (hw : okv w = true) (kk : Ev l G d mc ms M (pc + 1) ls (v :: w :: v :: st) h Q) : Ev l G d mc ms M pc ls (v :: w :: st) h Q := by
  intro p e R s m args below meth c H locs cells slots lv C a1 a2 a3 a4 hP hS hl
  exact lv_dup_x1 C.1 C.2.1 hdg (okv_cat G hv) (okv_cat G hw) (kk p e R s m args below meth c H locs cells slots lv C a1 a2 a3 a4 hP hS hl)

theorem Ev_dup2 {v w : Value} (hdg : decode M.2.1 pc = .ok (.dup2, 1)) (hv : okv v = true) (hw : okv w = true) (kk : Ev l G d mc ms M (pc + 1) ls (v :: w :: v :: w :: st) h Q) : Ev l G d mc ms M pc ls (v :: w :: st) h Q := by
  intro p e R s m args below meth c H locs cells slots lv C a1 a2 a3 a4 hP hS hl
  exact lv_dup2_11 C.1 C.2.1 hdg (okv_cat G hv) (okv_cat G hw) (kk p e R s m args below meth c H locs cells slots lv C a1 a2 a3 a4 hP hS hl)

theorem Ev_icmp_eq {x y : Int32} {off : Int} (tgt : Nat) (hdg : decode M.2.1 pc = .ok (.if_icmp .eq off, 3)) (ht : (pc : Int) + off = (tgt : Int)) (kt : x = y → Ev l G d mc ms M tgt ls st h Q) (kf : ¬ x = y → Ev l G d mc ms M (pc + 3) ls st h Q) : Ev l G d mc ms M pc ls (.int y :: .int x :: st) h Q := by
  intro p e R s m args below meth c H locs cells slots lv C a1 a2 a3 a4 hP hS hl
  exact lv_icmp_eq C.1 C.2.1 hdg ht (fun z => kt z p e R s m args below meth c H locs cells slots lv C a1 a2 a3 a4 hP hS hl) (fun z => kf z p e R s m args below meth c H locs cells slots lv C a1 a2 a3 a4 hP hS hl)

theorem Ev_if_eq {x : Int32} {off : Int} (tgt : Nat) (hdg : decode M.2.1 pc = .ok (.ifCond .eq off, 3)) (ht : (pc : Int) + off = (tgt : Int)) (kt : x = 0 → Ev l G d mc ms M tgt ls st h Q) (kf : ¬ x = 0 → Ev l G d mc ms M (pc + 3) ls st h Q) : Ev l G d mc ms M pc ls (.int x :: st) h Q := by
  intro p e R s m args below meth c H locs cells slots lv C a1 a2 a3 a4 hP hS hl
  exact lv_if_eq C.1 C.2.1 hdg ht (fun z => kt z p e R s m args below meth c H locs cells slots lv C a1 a2 a3 a4 hP hS hl) (fun z => kf z p e R s m args below meth c H locs cells slots lv C a1 a2 a3 a4 hP hS hl)

theorem Ev_icmp_ne {x y : Int32} {off : Int} (tgt : Nat) (hdg : decode M.2.1 pc = .ok (.if_icmp .ne off, 3)) (ht : (pc : Int) + off = (tgt : Int)) (kt : ¬ x = y → Ev l G d mc ms M tgt ls st h Q) (kf : x = y → Ev l G d mc ms M (pc + 3) ls st h Q) : Ev l G d mc ms M pc ls (.int y :: .int x :: st) h Q := by
  intro p e R s m args below meth c H locs cells slots lv C a1 a2 a3 a4 hP hS hl
  exact lv_icmp_ne C.1 C.2.1 hdg ht (fun z => kt z p e R s m args below meth c H locs cells slots lv C a1 a2 a3 a4 hP hS hl) (fun z => kf z p e R s m args below meth c H locs cells slots lv C a1 a2 a3 a4 hP hS hl)

theorem Ev_if_ne {x : Int32} {off : Int} (tgt : Nat) (hdg : decode M.2.1 pc = .ok (.ifCond .ne off, 3)) (ht : (pc : Int) + off = (tgt : Int)) (kt : ¬ x = 0 → Ev l G d mc ms M tgt ls st h Q) (kf : x = 0 → Ev l G d mc ms M (pc + 3) ls st h Q) : Ev l G d mc ms M pc ls (.int x :: st) h Q := by
  intro p e R s m args below meth c H locs cells slots lv C a1 a2 a3 a4 hP hS hl
  exact lv_if_ne C.1 C.2.1 hdg ht (fun z => kt z p e R s m args below meth c H locs cells slots lv C a1 a2 a3 a4 hP hS hl) (fun z => kf z p e R s m args below meth c H locs cells slots lv C a1 a2 a3 a4 hP hS hl)

theorem Ev_icmp_lt {x y : Int32} {off : Int} (tgt : Nat) (hdg : decode M.2.1 pc = .ok (.if_icmp .lt off, 3)) (ht : (pc : Int) + off = (tgt : Int)) (kt : x < y → Ev l G d mc ms M tgt ls st h Q) (kf : ¬ x < y → Ev l G d mc ms M (pc + 3) ls st h Q) : Ev l G d mc ms M pc ls (.int y :: .int x :: st) h Q := by
  intro p e R s m args below meth c H locs cells slots lv C a1 a2 a3 a4 hP hS hl
  exact lv_icmp_lt C.1 C.2.1 hdg ht (fun z => kt z p e R s m args below meth c H locs cells slots lv C a1 a2 a3 a4 hP hS hl) (fun z => kf z p e R s m args below meth c H locs cells slots lv C a1 a2 a3 a4 hP hS hl)

theorem Ev_if_lt {x : Int32} {off : Int} (tgt : Nat) (hdg : decode M.2.1 pc = .ok (.ifCond .lt off, 3)) (ht : (pc : Int) + off = (tgt : Int)) (kt : x < 0 → Ev l G d mc ms M tgt ls st h Q) (kf : ¬ x < 0 → Ev l G d mc ms M (pc + 3) ls st h Q) : Ev l G d mc ms M pc ls (.int x :: st) h Q := by
  intro p e R s m args below meth c H locs cells slots lv C a1 a2 a3 a4 hP hS hl
  exact lv_if_lt C.1 C.2.1 hdg ht (fun z => kt z p e R s m args below meth c H locs cells slots lv C a1 a2 a3 a4 hP hS hl) (fun z => kf z p e R s m args below meth c H locs cells slots lv C a1 a2 a3 a4 hP hS hl)

theorem Ev_icmp_ge {x y : Int32} {off : Int} (tgt : Nat) (hdg : decode M.2.1 pc = .ok (.if_icmp .ge off, 3)) (ht : (pc : Int) + off = (tgt : Int)) (kt : y ≤ x → Ev l G d mc ms M tgt ls st h Q) (kf : ¬ y ≤ x → Ev l G d mc ms M (pc + 3) ls st h Q) : Ev l G d mc ms M pc ls (.int y :: .int x :: st) h Q := by
  intro p e R s m args below meth c H locs cells slots lv C a1 a2 a3 a4 hP hS hl
  exact lv_icmp_ge C.1 C.2.1 hdg ht (fun z => kt z p e R s m args below meth c H locs cells slots lv C a1 a2 a3 a4 hP hS hl) (fun z => kf z p e R s m args below meth c H locs cells slots lv C a1 a2 a3 a4 hP hS hl)

theorem Ev_if_ge {x : Int32} {off : Int} (tgt : Nat) (hdg : decode M.2.1 pc = .ok (.ifCond .ge off, 3)) (ht : (pc : Int) + off = (tgt : Int)) (kt : 0 ≤ x → Ev l G d mc ms M tgt ls st h Q) (kf : ¬ 0 ≤ x → Ev l G d mc ms M (pc + 3) ls st h Q) : Ev l G d mc ms M pc ls (.int x :: st) h Q := by
  intro p e R s m args below meth c H locs cells slots lv C a1 a2 a3 a4 hP hS hl
  exact lv_if_ge C.1 C.2.1 hdg ht (fun z => kt z p e R s m args below meth c H locs cells slots lv C a1 a2 a3 a4 hP hS hl) (fun z => kf z p e R s m args below meth c H locs cells slots lv C a1 a2 a3 a4 hP hS hl)

theorem Ev_icmp_gt {x y : Int32} {off : Int} (tgt : Nat) (hdg : decode M.2.1 pc = .ok (.if_icmp .gt off, 3)) (ht : (pc : Int) + off = (tgt : Int)) (kt : y < x → Ev l G d mc ms M tgt ls st h Q) (kf : ¬ y < x → Ev l G d mc ms M (pc + 3) ls st h Q) : Ev l G d mc ms M pc ls (.int y :: .int x :: st) h Q := by
  intro p e R s m args below meth c H locs cells slots lv C a1 a2 a3 a4 hP hS hl
  exact lv_icmp_gt C.1 C.2.1 hdg ht (fun z => kt z p e R s m args below meth c H locs cells slots lv C a1 a2 a3 a4 hP hS hl) (fun z => kf z p e R s m args below meth c H locs cells slots lv C a1 a2 a3 a4 hP hS hl)

theorem Ev_if_gt {x : Int32} {off : Int} (tgt : Nat) (hdg : decode M.2.1 pc = .ok (.ifCond .gt off, 3)) (ht : (pc : Int) + off = (tgt : Int)) (kt : 0 < x → Ev l G d mc ms M tgt ls st h Q) (kf : ¬ 0 < x → Ev l G d mc ms M (pc + 3) ls st h Q) : Ev l G d mc ms M pc ls (.int x :: st) h Q := by
  intro p e R s m args below meth c H locs cells slots lv C a1 a2 a3 a4 hP hS hl
  exact lv_if_gt C.1 C.2.1 hdg ht (fun z => kt z p e R s m args below meth c H locs cells slots lv C a1 a2 a3 a4 hP hS hl) (fun z => kf z p e R s m args below meth c H locs cells slots lv C a1 a2 a3 a4 hP hS hl)

theorem Ev_icmp_le {x y : Int32} {off : Int} (tgt : Nat) (hdg : decode M.2.1 pc = .ok (.if_icmp .le off, 3)) (ht : (pc : Int) + off = (tgt : Int)) (kt : x ≤ y → Ev l G d mc ms M tgt ls st h Q) (kf : ¬ x ≤ y → Ev l G d mc ms M (pc + 3) ls st h Q) : Ev l G d mc ms M pc ls (.int y :: .int x :: st) h Q := by
  intro p e R s m args below meth c H locs cells slots lv C a1 a2 a3 a4 hP hS hl
  exact lv_icmp_le C.1 C.2.1 hdg ht (fun z => kt z p e R s m args below meth c H locs cells slots lv C a1 a2 a3 a4 hP hS hl) (fun z => kf z p e R s m args below meth c H locs cells slots lv C a1 a2 a3 a4 hP hS hl)

theorem Ev_if_le {x : Int32} {off : Int} (tgt : Nat) (hdg : decode M.2.1 pc = .ok (.ifCond .le off, 3)) (ht : (pc : Int) + off = (tgt : Int)) (kt : x ≤ 0 → Ev l G d mc ms M tgt ls st h Q) (kf : ¬ x ≤ 0 → Ev l G d mc ms M (pc + 3) ls st h Q) : Ev l G d mc ms M pc ls (.int x :: st) h Q := by
  intro p e R s m args below meth c H locs cells slots lv C a1 a2 a3 a4 hP hS hl
  exact lv_if_le C.1 C.2.1 hdg ht (fun z => kt z p e R s m args below meth c H locs cells slots lv C a1 a2 a3 a4 hP hS hl) (fun z => kf z p e R s m args below meth c H locs cells slots lv C a1 a2 a3 a4 hP hS hl)

theorem Ev_goto {off : Int} (tgt : Nat) (hdg : decode M.2.1 pc = .ok (.goto off, 3)) (ht : (pc : Int) + off = (tgt : Int)) (kk : Ev l G d mc ms M tgt ls st h Q) : Ev l G d mc ms M pc ls st h Q := by
  intro p e R s m args below meth c H locs cells slots lv C a1 a2 a3 a4 hP hS hl
  exact lv_goto C.1 C.2.1 hdg ht (kk p e R s m args below meth c H locs cells slots lv C a1 a2 a3 a4 hP hS hl)

theorem Ev_ifnull {o : Option Nat} {off : Int} (tgt : Nat) (hdg : decode M.2.1 pc = .ok (.ifnull off, 3)) (ht : (pc : Int) + off = (tgt : Int)) (kt : o = none → Ev l G d mc ms M tgt ls st h Q) (kf : ∀ a, o = some a → Ev l G d mc ms M (pc + 3) ls st h Q) : Ev l G d mc ms M pc ls (rv o :: st) h Q := by
  intro p e R s m args below meth c H locs cells slots lv C a1 a2 a3 a4 hP hS hl
  cases o with
  | none => exact lv_ifnullN C.1 C.2.1 hdg ht (kt rfl p e R s m args below meth c H locs cells slots lv C a1 a2 a3 a4 hP hS hl)
  | some a => exact lv_ifnull C.1 C.2.1 hdg (kf a rfl p e R s m args below meth c H locs cells slots lv C a1 a2 a3 a4 hP hS hl)

theorem Ev_ifnonnull {o : Option Nat} {off : Int} (tgt : Nat) (hdg : decode M.2.1 pc = .ok (.ifnonnull off, 3)) (ht : (pc : Int) + off = (tgt : Int)) (kt : ∀ a, o = some a → Ev l G d mc ms M tgt ls st h Q) (kf : o = none → Ev l G d mc ms M (pc + 3) ls st h Q) : Ev l G d mc ms M pc ls (rv o :: st) h Q := by
  intro p e R s m args below meth c H locs cells slots lv C a1 a2 a3 a4 hP hS hl
  cases o with
  | none => exact lv_ifnonnullN C.1 C.2.1 hdg (kf rfl p e R s m args below meth c H locs cells slots lv C a1 a2 a3 a4 hP hS hl)
  | some a => exact lv_ifnonnull C.1 C.2.1 hdg ht (kt a rfl p e R s m args below meth c H locs cells slots lv C a1 a2 a3 a4 hP hS hl)

theorem ad_inj (G : aG) {s : State} {H : Heap} (hW : aWd G s H) {a b : Nat} (ha : a = 1 ∨ 3 ≤ a) (hb : b = 1 ∨ 3 ≤ b) (e : ad G a = ad G b) : a = b := by
  have h9 : ge G < gB G := hW.2.2.2.2.2.2.2.2
  rcases ha with rfl | ha <;> rcases hb with rfl | hb
  · rfl
  · rw [ad_3 G hb] at e
    have : ad G 1 = ge G := rfl
    omega
  · rw [ad_3 G ha] at e
    have : ad G 1 = ge G := rfl
    omega
  · rw [ad_3 G ha, ad_3 G hb] at e
    omega
theorem ad_injO (G : aG) {s : State} {H : Heap} (hW : aWd G s H) {x y : Option Nat} (hx : ∀ a, x = some a → a = 1 ∨ 3 ≤ a) (hy : ∀ a, y = some a → a = 1 ∨ 3 ≤ a) : x.map (ad G) = y.map (ad G) ↔ x = y := by
  constructor
  · intro e
    cases x <;> cases y
    · rfl
    · cases e
    · cases e
    · exact congrArg some (ad_inj G hW (hx _ rfl) (hy _ rfl) (Option.some.inj e))
  · intro e; rw [e]

theorem Ev_acmp_eq {x y : Option Nat} {off : Int} (tgt : Nat) (hdg : decode M.2.1 pc = .ok (.if_acmp .eq off, 3)) (ht : (pc : Int) + off = (tgt : Int)) (hx : ∀ a, x = some a → a = 1 ∨ 3 ≤ a) (hy : ∀ a, y = some a → a = 1 ∨ 3 ≤ a) (kt : x = y → Ev l G d mc ms M tgt ls st h Q) (kf : ¬ x = y → Ev l G d mc ms M (pc + 3) ls st h Q) : Ev l G d mc ms M pc ls (rv y :: rv x :: st) h Q := by
  intro p e R s m args below meth c H locs cells slots lv C a1 a2 a3 a4 hP hS hl
  have E := ad_injO G C.2.2.2.2.2.2.2.2 hx hy
  have Z : List.map (tv G) (rv y :: rv x :: st) = va_rf (y.map (ad G)) :: va_rf (x.map (ad G)) :: st.map (tv G) := by
    rw [← tv_rv, ← tv_rv]; rfl
  rw [Z]
  exact lv_acmp_eq (rx := x.map (ad G)) (ry := y.map (ad G)) C.1 C.2.1 hdg ht (fun z => kt (E.mp z) p e R s m args below meth c H locs cells slots lv C a1 a2 a3 a4 hP hS hl) (fun z => kf (fun q => z (E.mpr q)) p e R s m args below meth c H locs cells slots lv C a1 a2 a3 a4 hP hS hl)

theorem Ev_acmp_ne {x y : Option Nat} {off : Int} (tgt : Nat) (hdg : decode M.2.1 pc = .ok (.if_acmp .ne off, 3)) (ht : (pc : Int) + off = (tgt : Int)) (hx : ∀ a, x = some a → a = 1 ∨ 3 ≤ a) (hy : ∀ a, y = some a → a = 1 ∨ 3 ≤ a) (kt : ¬ x = y → Ev l G d mc ms M tgt ls st h Q) (kf : x = y → Ev l G d mc ms M (pc + 3) ls st h Q) : Ev l G d mc ms M pc ls (rv y :: rv x :: st) h Q := by
  intro p e R s m args below meth c H locs cells slots lv C a1 a2 a3 a4 hP hS hl
  have E := ad_injO G C.2.2.2.2.2.2.2.2 hx hy
  have Z : List.map (tv G) (rv y :: rv x :: st) = va_rf (y.map (ad G)) :: va_rf (x.map (ad G)) :: st.map (tv G) := by
    rw [← tv_rv, ← tv_rv]; rfl
  rw [Z]
  exact lv_acmp_ne (rx := x.map (ad G)) (ry := y.map (ad G)) C.1 C.2.1 hdg ht (fun z => kt (fun q => z (E.mpr q)) p e R s m args below meth c H locs cells slots lv C a1 a2 a3 a4 hP hS hl) (fun z => kf (E.mp z) p e R s m args below meth c H locs cells slots lv C a1 a2 a3 a4 hP hS hl)

theorem Ev_tableIn {dflt lo hi : Int} {offs : Array Int} {len : Nat} {x : Int32} {off : Int} (tgt : Nat) (hdg : decode M.2.1 pc = .ok (.tableswitch dflt lo hi offs, len)) (h1 : ¬ x.toInt < lo) (h2 : ¬ hi < x.toInt) (ho : offs[(x.toInt - lo).toNat]? = some off) (ht : (pc : Int) + off = (tgt : Int)) (kk : Ev l G d mc ms M tgt ls st h Q) : Ev l G d mc ms M pc ls (.int x :: st) h Q := by
  intro p e R s m args below meth c H locs cells slots lv C a1 a2 a3 a4 hP hS hl
  exact lv_tableIn C.1 C.2.1 hdg h1 h2 ho ht (kk p e R s m args below meth c H locs cells slots lv C a1 a2 a3 a4 hP hS hl)

theorem Ev_tableOut {dflt lo hi : Int} {offs : Array Int} {len : Nat} {x : Int32} (tgt : Nat) (hdg : decode M.2.1 pc = .ok (.tableswitch dflt lo hi offs, len)) (h1 : x.toInt < lo ∨ hi < x.toInt) (ht : (pc : Int) + dflt = (tgt : Int)) (kk : Ev l G d mc ms M tgt ls st h Q) : Ev l G d mc ms M pc ls (.int x :: st) h Q := by
  intro p e R s m args below meth c H locs cells slots lv C a1 a2 a3 a4 hP hS hl
  exact lv_tableOut C.1 C.2.1 hdg h1 ht (kk p e R s m args below meth c H locs cells slots lv C a1 a2 a3 a4 hP hS hl)

theorem Ev_lookup {dflt : Int} {ps : Array (Int × Int)} {len : Nat} {x : Int32} {off : Int} (tgt : Nat) (hdg : decode M.2.1 pc = .ok (.lookupswitch dflt ps, len)) (hp : (ps.toList.zip (ps.toList.drop 1)).all (fun (a, next) => a.1 < next.1) = true) (ho : Op.lookupswitch.offset ps.toList dflt x.toInt = off) (ht : (pc : Int) + off = (tgt : Int)) (kk : Ev l G d mc ms M tgt ls st h Q) : Ev l G d mc ms M pc ls (.int x :: st) h Q := by
  intro p e R s m args below meth c H locs cells slots lv C a1 a2 a3 a4 hP hS hl
  exact lv_lookup C.1 C.2.1 hdg hp ho ht (kk p e R s m args below meth c H locs cells slots lv C a1 a2 a3 a4 hP hS hl)

theorem Ev_ldc {idx : Nat} {v : Int32} (hdg : decode M.2.1 pc = .ok (.ldc idx, 2)) (hw : Cond.constant M.1.cls idx v ∈ aTs) (kk : Ev l G d mc ms M (pc + 2) ls (.int v :: st) h Q) : Ev l G d mc ms M pc ls st h Q := by
  intro p e R s m args below meth c H locs cells slots lv C a1 a2 a3 a4 hP hS hl
  exact lv_ldc C.1 C.2.1 C.2.2.2.2.1 (C.2.2.2.2.2.1 _ hw) hdg (kk p e R s m args below meth c H locs cells slots lv C a1 a2 a3 a4 hP hS hl)
theorem Ev_ldcw {idx : Nat} {v : Int32} (hdg : decode M.2.1 pc = .ok (.ldc_w idx, 3)) (hw : Cond.constant M.1.cls idx v ∈ aTs) (kk : Ev l G d mc ms M (pc + 3) ls (.int v :: st) h Q) : Ev l G d mc ms M pc ls st h Q := by
  intro p e R s m args below meth c H locs cells slots lv C a1 a2 a3 a4 hP hS hl
  exact lv_ldcw C.1 C.2.1 C.2.2.2.2.1 (C.2.2.2.2.2.1 _ hw) hdg (kk p e R s m args below meth c H locs cells slots lv C a1 a2 a3 a4 hP hS hl)

theorem Ev_iret {x : Int32} (hdg : decode M.2.1 pc = .ok (.ireturn, 1)) (hr : M.2.2.2 = some .int) (hq : Q (some (.int x)) h) : Ev l G d mc ms M pc ls [.int x] h Q := by
  intro p e R s m args below meth c H locs cells slots lv C a1 a2 a3 a4 hP hS hl
  refine W.widen (k := R.cells) (n := R.slots) (by omega) (by omega) ?_
  exact W.iret (v := x) C.1 C.2.1 (C.2.2.2.1.trans hr) (fun t ht hW => ⟨some (.int x), h, rfl, hq, by rw [ht]; exact hP, fun q hq' => by rw [ht]; exact hS.2.1 q (Nat.lt_of_lt_of_le hq' C.2.2.2.2.2.2.2.2.2.2.2.2.2.2.2.1) (by omega), by rw [ht]; exact hS.1⟩) hS.2.2 hdg C.2.2.2.2.2.2.1

theorem Ev_zret {x : Int32} (hdg : decode M.2.1 pc = .ok (.ireturn, 1)) (hr : M.2.2.2 = some .boolean) (hx : x = 0 ∨ x = 1) (hq : Q (some (.int x)) h) : Ev l G d mc ms M pc ls [.int x] h Q := by
  intro p e R s m args below meth c H locs cells slots lv C a1 a2 a3 a4 hP hS hl
  refine W.widen (k := R.cells) (n := R.slots) (by omega) (by omega) ?_
  exact W.zret (v := x) (ty := .boolean) C.1 C.2.1 (C.2.2.2.1.trans hr) (by rcases hx with rfl | rfl <;> rfl) (fun t ht hW => ⟨some (.int x), h, rfl, hq, by rw [ht]; exact hP, fun q hq' => by rw [ht]; exact hS.2.1 q (Nat.lt_of_lt_of_le hq' C.2.2.2.2.2.2.2.2.2.2.2.2.2.2.2.1) (by omega), by rw [ht]; exact hS.1⟩) hS.2.2 hdg C.2.2.2.2.2.2.1

theorem Ev_vret (hdg : decode M.2.1 pc = .ok (.return_, 1)) (hr : M.2.2.2 = none) (hq : Q none h) : Ev l G d mc ms M pc ls [] h Q := by
  intro p e R s m args below meth c H locs cells slots lv C a1 a2 a3 a4 hP hS hl
  refine W.widen (k := R.cells) (n := R.slots) (by omega) (by omega) ?_
  exact W.vret C.1 C.2.1 (C.2.2.2.1.trans hr) (fun t ht hW => ⟨none, h, rfl, hq, by rw [ht]; exact hP, fun q hq' => by rw [ht]; exact hS.2.1 q (Nat.lt_of_lt_of_le hq' C.2.2.2.2.2.2.2.2.2.2.2.2.2.2.2.1) (by omega), by rw [ht]; exact hS.1⟩) hS.2.2 hdg C.2.2.2.2.2.2.1

theorem Ev_aret {rt : FieldType} {v : Value} (hdg : decode M.2.1 pc = .ok (.areturn, 1)) (hr : M.2.2.2 = some rt) (hrt : (∃ n, rt = .object n) ∨ ∃ t, rt = .array t) (hv : v = .null ∨ ∃ a, v = .ref a) (hq : Q (some v) h) : Ev l G d mc ms M pc ls [v] h Q := by
  intro p e R s m args below meth c H locs cells slots lv C a1 a2 a3 a4 hP hS hl
  refine W.widen (k := R.cells) (n := R.slots) (by omega) (by omega) ?_
  exact W.aret (v := tv G v) C.1 C.2.1 (C.2.2.2.1.trans hr) hrt (by rcases hv with rfl | ⟨a, rfl⟩ <;> first | exact Or.inl rfl | exact Or.inr ⟨_, rfl⟩) (fun t ht hW => ⟨some v, h, rfl, hq, by rw [ht]; exact hP, fun q hq' => by rw [ht]; exact hS.2.1 q (Nat.lt_of_lt_of_le hq' C.2.2.2.2.2.2.2.2.2.2.2.2.2.2.2.1) (by omega), by rw [ht]; exact hS.1⟩) hS.2.2 hdg C.2.2.2.2.2.2.1

end EV
end
section
theorem us_all : vwCl.all (fun r => (u_ws r.1 r.2.1 r.2.2).all (fun w => decide (w ∈ aTs))) = true := by decide +kernel
end
section
/-! fields and rows -/
theorem us_in {ci : Nat} {r : vw_C} (h : vwCl[ci]? = some r) : ∀ w ∈ u_ws r.1 r.2.1 r.2.2, w ∈ aTs := by
  have h1 := List.all_eq_true.mp us_all r (List.mem_of_getElem? h)
  intro w hw
  exact of_decide_eq_true (List.all_eq_true.mp h1 w hw)
theorem vw_lt {ci : Nat} {r : vw_C} (h : vwCl[ci]? = some r) : ci < 13 := (List.getElem?_eq_some_iff.mp h).1
theorem fn_eq {ci : Nat} {r : vw_C} (h : vwCl[ci]? = some r) : fn ci = r.2.2 := by unfold fn; rw [h]
theorem ty_all {ci : Nat} {r : vw_C} (h : vwCl[ci]? = some r) : (∀ k, k < r.2.2 → parseFieldDescriptor (r.2.1 k).2.2.1 = some (fT ci k)) ∧ (∀ a, a < r.2.2 → ∀ b, b < r.2.2 → a ≠ b → (r.2.1 a).2.1 ≠ (r.2.1 b).2.1) := by
  have hl := vw_lt h
  match ci, h with
  | 0, h => cases h; exact ⟨tyJx4a65c_ok, nmJx4a65c⟩
  | 1, h => cases h; exact ⟨tyX0_ok, nmX0⟩
  | 2, h => cases h; exact ⟨tyX1_ok, nmX1⟩
  | 3, h => cases h; exact ⟨tyX2_ok, nmX2⟩
  | 4, h => cases h; exact ⟨tyX3_ok, nmX3⟩
  | 5, h => cases h; exact ⟨tyX4_ok, nmX4⟩
  | 6, h => cases h; exact ⟨tyX5_ok, nmX5⟩
  | 7, h => cases h; exact ⟨tyX6_ok, nmX6⟩
  | 8, h => cases h; exact ⟨tyX7_ok, nmX7⟩
  | 9, h => cases h; exact ⟨tyX8_ok, nmX8⟩
  | 10, h => cases h; exact ⟨tyX9_ok, nmX9⟩
  | 11, h => cases h; exact ⟨tyX10_ok, nmX10⟩
  | 12, h => cases h; exact ⟨tyX11_ok, nmX11⟩
  | n + 13, h => exact absurd hl (by omega)
theorem fld_lt {ci : Nat} {r : vw_C} (h : vwCl[ci]? = some r) : r.2.2 < 64 := by
  have hl := vw_lt h
  match ci, h with
  | 0, h | 1, h | 2, h | 3, h | 4, h | 5, h | 6, h | 7, h | 8, h | 9, h | 10, h | 11, h | 12, h => cases h; decide
  | n + 13, h => exact absurd hl (by omega)
def fvs (G : aG) (h : aH) (ci a : Nat) : List Value := (List.range (fn ci)).map (fun j => fv G h ci j a)
theorem fvs_at {G : aG} {h : aH} {ci a j : Nat} (hj : j < fn ci) : (fvs G h ci a)[j]? = some (fv G h ci j a) := by
  unfold fvs
  rw [List.getElem?_map, List.getElem?_range hj]; rfl
theorem fvs_len {G : aG} {h : aH} {ci a : Nat} : (fvs G h ci a).length = fn ci := by simp [fvs]
theorem fvs_set {G : aG} {h h' : aH} {ci a j : Nat} {v : Value} (hj : j < fn ci) (e : fv G h' ci j a = v) (o : ∀ i, i < fn ci → i ≠ j → fv G h' ci i a = fv G h ci i a) : (fvs G h ci a).set j v = fvs G h' ci a := by
  apply List.ext_getElem?
  intro i
  rw [List.getElem?_set, fvs_len]
  by_cases hi : j = i
  · subst hi
    rw [if_pos rfl, if_pos hj, fvs_at hj, e]
  · rw [if_neg hi]
    by_cases hl : i < fn ci
    · rw [fvs_at hl, fvs_at hl, o i hl (Ne.symm hi)]
    · rw [List.getElem?_eq_none (by rw [fvs_len]; omega), List.getElem?_eq_none (by rw [fvs_len]; omega)]
theorem aCl_obj {G : aG} {h : aH} {ci a : Nat} (hk : hK h a = ci) (hc : ci < 13) : aCl G h a = .inr (ci, fvs G h ci a) := by
  unfold aCl
  rw [hk, if_pos hc]; rfl
theorem aCl_int {G : aG} {h : aH} {kd a : Nat} (hk : hK h a = kd) (hc : kd = 13 ∨ kd = 14) : aCl G h a = .inl (gC G kd, hL h a, .inl (hX h a)) := by
  unfold aCl
  rw [hk, if_neg (by omega), if_pos (by omega)]
theorem aCl_ref {G : aG} {h : aH} {kd a : Nat} (hk : hK h a = kd) (hc : 15 ≤ kd) : aCl G h a = .inl (gC G kd, hL h a, .inr (.inr (.inr (.inr (fun j => (hY h a j).map (ad G)))))) := by
  unfold aCl
  rw [hk, if_neg (by omega), if_neg (by omega)]
/-- a cell by its parts -/
theorem aCl_eq {G : aG} {h h' : aH} {b : Nat} (e1 : hK h' b = hK h b) (e2 : ∀ k, hI h' k b = hI h k b) (e3 : ∀ k, hR h' k b = hR h k b) (e4 : hL h' b = hL h b) (e5 : hX h' b = hX h b) (e6 : hY h' b = hY h b) : aCl G h' b = aCl G h b := by
  unfold aCl fv
  simp only [e1, e2, e3, e4, e5, e6]
theorem up1_s {α : Type} (f : Nat → α) (a : Nat) (v : α) : up1 f a v a = v := if_pos rfl
theorem up1_n {α : Type} (f : Nat → α) {a b : Nat} (v : α) (e : b ≠ a) : up1 f a v b = f b := if_neg e
theorem up2_s {α : Type} (f : Nat → Nat → α) (k a : Nat) (v : α) : up2 f k a v k a = v := by simp [up2]
theorem up2_n {α : Type} (f : Nat → Nat → α) {k a k' b : Nat} (v : α) (e : b ≠ a) : up2 f k a v k' b = f k' b := by simp [up2, e]
theorem up2_k {α : Type} (f : Nat → Nat → α) {k a k' b : Nat} (v : α) (e : k' ≠ k) : up2 f k a v k' b = f k' b := by simp [up2, e]
/-- a field's number among the heap's: by the place in the constant table of a class -/
def aFl (own : String) (idx ci j f : Nat) (rf : Bool) : Prop := ∃ (C : String) (T : u_T) (N : Nat) (ref : String), vwCl[ci]? = some (C, T, N) ∧ j < N ∧ f = 64 * ci + j ∧ rfT (fT ci j) = rf ∧ Cond.fieldLink own idx ref (T j).2.1 (T j).2.2.1 ∈ aTs ∧ (ref = (T j).1 ∨ Cond.sameField ref (T j).1 (T j).2.1 (T j).2.2.1 ∈ aTs)
section EV
variable {l : Launch} {G : aG} {d mc ms : Nat} {M : aM} {pc : Nat} {ls st : List Value} {h : aH} {Q : Option Value → aH → Prop}
theorem hsame_of {s : State} {args : Array Value} {ref C n dd : String} (hts : ∀ w ∈ aTs, w.before args s = true) (hr : ref = C ∨ Cond.sameField ref C n dd ∈ aTs) : ∀ x, s.fieldFound? C n dd = some x → s.fieldFound? ref n dd = some x := by
  rcases hr with rfl | hr
  · exact fun _ h => h
  · exact fun x hx => u_same (hts _ hr) x hx
theorem Ev_getI {idx ci j f a : Nat} (hdg : decode M.2.1 pc = .ok (.getfield idx, 3)) (hf : aFl M.1.cls idx ci j f false) (hk : hK h a = ci) (kk : Ev l G d mc ms M (pc + 3) ls (.int (hI h f a) :: st) h Q) : Ev l G d mc ms M pc ls (.ref a :: st) h Q := by
  intro p e R s m args below meth c H locs cells slots lv C a1 a2 a3 a4 hP hS hl
  obtain ⟨K, T, N, ref, q1, q2, q3, q4, q5, q6⟩ := hf
  have hc := vw_lt q1
  obtain ⟨h3, hn⟩ := hP.2.2 a (by rw [hk]; omega)
  refine va_get (D := gD G) (ci := ci) (v := .int (hI h f a)) (C := K) (T := T) (N := N) (fs := fvs G h ci a) C.1 C.2.1 C.2.2.2.2.2.1 (us_in q1) C.2.2.2.2.1 C.2.2.2.2.2.2.2.2.1 hP.2.1 (a - 3) (by rw [wl_get G h3 hn, aCl_obj hk hc]) q1 j q2 (C.2.2.2.2.2.1 _ q5) (hsame_of C.2.2.2.2.2.1 q6) ?_ hdg (kk p e R s m args below meth c H locs cells slots lv C a1 a2 a3 a4 hP hS hl)
  rw [fvs_at (by rw [fn_eq q1]; exact q2)]
  unfold fv
  rw [if_neg (by rw [q4]; decide), q3]
theorem Ev_getR {idx ci j f a : Nat} (hdg : decode M.2.1 pc = .ok (.getfield idx, 3)) (hf : aFl M.1.cls idx ci j f true) (hk : hK h a = ci) (kk : Ev l G d mc ms M (pc + 3) ls (rv (hR h f a) :: st) h Q) : Ev l G d mc ms M pc ls (.ref a :: st) h Q := by
  intro p e R s m args below meth c H locs cells slots lv C a1 a2 a3 a4 hP hS hl
  obtain ⟨K, T, N, ref, q1, q2, q3, q4, q5, q6⟩ := hf
  have hc := vw_lt q1
  obtain ⟨h3, hn⟩ := hP.2.2 a (by rw [hk]; omega)
  refine va_get (D := gD G) (ci := ci) (v := tv G (rv (hR h f a))) (C := K) (T := T) (N := N) (fs := fvs G h ci a) C.1 C.2.1 C.2.2.2.2.2.1 (us_in q1) C.2.2.2.2.1 C.2.2.2.2.2.2.2.2.1 hP.2.1 (a - 3) (by rw [wl_get G h3 hn, aCl_obj hk hc]) q1 j q2 (C.2.2.2.2.2.1 _ q5) (hsame_of C.2.2.2.2.2.1 q6) ?_ hdg (kk p e R s m args below meth c H locs cells slots lv C a1 a2 a3 a4 hP hS hl)
  rw [fvs_at (by rw [fn_eq q1]; exact q2)]
  unfold fv
  rw [if_pos q4, q3, tv_rv]
theorem wl_setI {h : aH} {ci j f a : Nat} {x : Int32} {r : vw_C} (q1 : vwCl[ci]? = some r) (q2 : j < r.2.2) (q3 : f = 64 * ci + j) (q4 : rfT (fT ci j) = false) (hk : hK h a = ci) (h3 : 3 ≤ a) (hn : a < hN h + 3) : (wl G h).set (a - 3) (ad G a, .inr (ci, (fvs G h ci a).set j (.int x))) = wl G (sI h f a x) := by
  have hc := vw_lt q1
  have hj : j < fn ci := by rw [fn_eq q1]; exact q2
  have e0 : fvs G (sI h f a x) ci a = (fvs G h ci a).set j (.int x) := by
    symm
    refine fvs_set hj ?_ (fun i hi hij => ?_)
    · unfold fv
      rw [if_neg (by rw [q4]; decide), ← q3]
      show Value.int (up2 (hI h) f a x f a) = _
      rw [up2_s]
    · unfold fv
      have : hI (sI h f a x) (64 * ci + i) a = hI h (64 * ci + i) a := by
        show up2 (hI h) f a x _ _ = _
        exact up2_k _ _ (by omega)
      rw [this]; rfl
  rw [← e0]
  have := wl_set G (h := h) (h' := sI h f a x) h3 hn rfl (fun b hb => aCl_eq rfl (fun k => up2_n _ _ hb) (fun _ => rfl) rfl rfl rfl)
  rw [← this, aCl_obj (h := sI h f a x) hk hc]
theorem wl_setR {h : aH} {ci j f a : Nat} {x : Option Nat} {r : vw_C} (q1 : vwCl[ci]? = some r) (q2 : j < r.2.2) (q3 : f = 64 * ci + j) (q4 : rfT (fT ci j) = true) (hk : hK h a = ci) (h3 : 3 ≤ a) (hn : a < hN h + 3) : (wl G h).set (a - 3) (ad G a, .inr (ci, (fvs G h ci a).set j (tv G (rv x)))) = wl G (sR h f a x) := by
  have hc := vw_lt q1
  have hj : j < fn ci := by rw [fn_eq q1]; exact q2
  have e0 : fvs G (sR h f a x) ci a = (fvs G h ci a).set j (tv G (rv x)) := by
    symm
    refine fvs_set hj ?_ (fun i hi hij => ?_)
    · unfold fv
      rw [if_pos q4, ← q3, tv_rv]
      show va_rf ((up2 (hR h) f a x f a).map (ad G)) = _
      rw [up2_s]
    · unfold fv
      have : hR (sR h f a x) (64 * ci + i) a = hR h (64 * ci + i) a := by
        show up2 (hR h) f a x _ _ = _
        exact up2_k _ _ (by omega)
      rw [this]; rfl
  rw [← e0]
  have := wl_set G (h := h) (h' := sR h f a x) h3 hn rfl (fun b hb => aCl_eq rfl (fun _ => rfl) (fun k => up2_n _ _ hb) rfl rfl rfl)
  rw [← this, aCl_obj (h := sR h f a x) hk hc]
theorem aRp.same {H H1 : Heap} {h h' : aH} (hP : aRp G h H) (e : hN h' = hN h) (ek : hK h' = hK h) (hz : H1.size = H.size) (hw : va_P (gD G) vwCl (wl G h') H1) : aRp G h' H1 := ⟨by rw [hz, e]; exact hP.1, hw, fun a ha => by rw [e]; exact hP.2.2 a (by rw [← ek]; exact ha)⟩
end EV
end
section
section EV
variable {l : Launch} {G : aG} {d mc ms : Nat} {M : aM} {pc : Nat} {ls st : List Value} {h : aH} {Q : Option Value → aH → Prop}
/-- a field is written: by the machine's row, with the sizes -/
theorem put_core {p : Program} {e : Env} {R : Room} {s : State} {m : MethodId} {args : Array Value} {below : List Frame} {meth : Method} {c : Code} {H : Heap} {locs : List Loc} {cells slots : Nat} {lv : Array Slot} {Z : State → Prop} {rest : List Value} {idx ci j a : Nat} {K : String} {T : u_T} {N : Nat} {ref : String} {v : Value} (C : aCx G M p s m args meth c) (q1 : vwCl[ci]? = some (K, T, N)) (q2 : j < N) (q5 : Cond.fieldLink M.1.cls idx ref (T j).2.1 (T j).2.2.1 ∈ aTs) (q6 : ref = (T j).1 ∨ Cond.sameField ref (T j).1 (T j).2.1 (T j).2.2.1 ∈ aTs) (hfin : (T j).2.2.2 = false ∨ (M.1.name = "<init>" ∧ (T j).1 = M.1.cls)) (hk : hK h a = ci) (hn1 : narrow (fT ci j) v = v) (hfit : fits (fT ci j) v = true) (hP : aRp G h H) (hS : va_S (fun q => gB G ≤ q) s.heap H locs) (hdg : decode M.2.1 pc = .ok (.putfield idx, 3))
    (kk : ∀ (H1 : Heap) (locs1 : List Loc), H1.size = H.size → va_P (gD G) vwCl ((wl G h).set (a - 3) (ad G a, .inr (ci, (fvs G h ci a).set j v))) H1 → va_S (fun q => gB G ≤ q) s.heap H1 locs1 → W p l e R s m args below meth c H1 locs1 cells slots Z (F0 m (pc + 3) lv rest)) : W p l e R s m args below meth c H locs cells slots Z (F0 m pc lv (v :: .ref (ad G a) :: rest)) := by
  have hc := vw_lt q1
  obtain ⟨h3, hn⟩ := hP.2.2 a (by rw [hk]; omega)
  have hts := C.2.2.2.2.2.1
  have hin := us_in q1
  obtain ⟨hty, hnm⟩ := ty_all q1
  have hKK := C.2.2.2.2.2.2.2.2.1
  have he : (wl G h)[a - 3]? = some (ad G a, .inr (ci, fvs G h ci a)) := by rw [wl_get G h3 hn, aCl_obj hk hc]
  have hap := va_apart (own := M.1.cls) hts hin (fT ci) hty hnm hKK q1
  obtain ⟨r, h1, cell, w1, w2, w3, w4⟩ := hP.2.1 (a - 3) _ he
  have hr : r = (K, T, N) := Option.some.inj (h1.symm.trans q1)
  subst hr
  obtain ⟨hSl, hfc, kC, hkC, hkind⟩ := hKK.1 ci _ q1
  obtain ⟨cf, kf, fi, f, hi, hsl⟩ := hSl j q2
  have hst := (u_facts hfc hkC (u_lays hts hin q2) hi).1
  have hd := hty j q2
  have hD := wl_D G h
  have hsm := hsame_of (n := (T j).2.1) (dd := (T j).2.2.1) hts q6
  have hlj : j < (fvs G h ci a).length := by rw [fvs_len, fn_eq q1]; exact q2
  have done : ∀ H' : Heap, H'[ad G a]? = some (cell.setSlot f.slot v) → H'.size = H.size → (∀ q, q ≠ ad G a → H'[q]? = H[q]?) → W p l e R s m args below meth c H' (locs ++ [⟨ad G a, f.slot⟩]) cells slots Z (F0 m (pc + 3) lv rest) := by
    intro H' e1 e2 e3
    rw [hsl] at e1 ⊢
    exact kk H' _ e2 (hP.2.1.set hD he ⟨_, q1, t_OB.to (V := updV (vp_V (fvs G h ci a)) j v) ⟨_, e1, w2, w3, t_set w4 hap q2 v⟩ (fun i _ => vp_updV_set hlj v i)⟩ e3) (hS.put e2 e3 (hD.2 (a - 3) _ he))
  by_cases hf : (T j).2.2.2 = true
  · rcases hfin with hz | ⟨hz1, hz2⟩
    · rw [hz] at hf; cases hf
    have hlay := hts _ (hin _ (u_in_lay q2))
    unfold u_lay at hlay
    rw [if_pos hf] at hlay
    have hcf : m.cls = cf := by
      obtain ⟨_, _, c', _, _, _, -, -, hf', -, -, -, hown2, -⟩ := Cond.laysFinal_spec hlay
      have e1 : c' = cf := by have := hi.symm.trans hf'; simp at this; exact this.1.symm
      rw [hz2] at hown2
      rw [← e1]; exact Option.some.inj (C.2.2.2.2.1.symm.trans hown2)
    have h6 := u_fits hfc hkC hkind (Or.inr hlay) hi hd hn1 hfit
    exact W.putFinK C.1 C.2.1 C.2.2.2.2.1 (hts _ q5) (hsm _ hi) hst hcf (C.2.2.2.2.2.2.2.1 hz1) (by rw [w2]; exact h6) w1 w3 (by rw [hsl]; exact k2_hasslot (w4 j q2)) rfl rfl hdg done
  · have hlay := hts _ (hin _ (u_in_lay q2))
    unfold u_lay at hlay
    rw [if_neg hf] at hlay
    have h6 := u_store hfc hkC hkind hlay hi hd hn1 hfit
    exact W.putK C.1 C.2.1 (f := f) ⟨C.2.2.2.2.1, hts _ q5, ⟨_, _, _, hsm _ hi⟩, hst⟩ (by rw [w2]; exact h6) w1 w3 (by rw [hsl]; exact k2_hasslot (w4 j q2)) rfl rfl hdg done
/-- may this field be written here? -/
def aFw (M : aM) (ci j : Nat) : Prop := ∃ r : vw_C, vwCl[ci]? = some r ∧ ((r.2.1 j).2.2.2 = false ∨ (M.1.name = "<init>" ∧ (r.2.1 j).1 = M.1.cls))
theorem Ev_putI {idx ci j f a : Nat} {x : Int32} (hdg : decode M.2.1 pc = .ok (.putfield idx, 3)) (hf : aFl M.1.cls idx ci j f false) (hw : aFw M ci j) (hx : fT ci j = .int ∨ (fT ci j = .boolean ∧ (x = 0 ∨ x = 1))) (hk : hK h a = ci) (kk : Ev l G d mc ms M (pc + 3) ls st (sI h f a x) Q) : Ev l G d mc ms M pc ls (.int x :: .ref a :: st) h Q := by
  intro p e R s m args below meth c H locs cells slots lv C a1 a2 a3 a4 hP hS hl
  obtain ⟨K, T, N, ref, q1, q2, q3, q4, q5, q6⟩ := hf
  obtain ⟨r, r1, r2⟩ := hw
  have hr : r = (K, T, N) := Option.some.inj (r1.symm.trans q1)
  subst hr
  obtain ⟨h3, hn⟩ := hP.2.2 a (by rw [hk]; have := vw_lt q1; omega)
  refine put_core (v := .int x) C q1 q2 q5 q6 r2 hk ?_ ?_ hP hS hdg (fun H1 locs1 hz hw1 hS1 => kk p e R s m args below meth c H1 locs1 cells slots lv C a1 a2 a3 a4 (hP.same rfl rfl hz ?_) hS1 hl)
  · rcases hx with hx | ⟨hx, rfl | rfl⟩ <;> rw [hx] <;> rfl
  · rcases hx with hx | ⟨hx, rfl | rfl⟩ <;> rw [hx] <;> rfl
  · rw [← wl_setI q1 q2 q3 q4 hk h3 hn]; exact hw1
theorem rf_fit {ty : FieldType} (h : rfT ty = true) (G : aG) (x : Option Nat) : narrow ty (tv G (rv x)) = tv G (rv x) ∧ fits ty (tv G (rv x)) = true := by
  cases ty <;> first | (cases x <;> exact ⟨rfl, rfl⟩) | (simp [rfT] at h)
theorem Ev_putR {idx ci j f a : Nat} {x : Option Nat} {v : Value} (hdg : decode M.2.1 pc = .ok (.putfield idx, 3)) (hf : aFl M.1.cls idx ci j f true) (hw : aFw M ci j) (hk : hK h a = ci) (hv : v = rv x) (kk : Ev l G d mc ms M (pc + 3) ls st (sR h f a x) Q) : Ev l G d mc ms M pc ls (v :: .ref a :: st) h Q := by
  subst hv
  intro p e R s m args below meth c H locs cells slots lv C a1 a2 a3 a4 hP hS hl
  obtain ⟨K, T, N, ref, q1, q2, q3, q4, q5, q6⟩ := hf
  obtain ⟨r, r1, r2⟩ := hw
  have hr : r = (K, T, N) := Option.some.inj (r1.symm.trans q1)
  subst hr
  obtain ⟨h3, hn⟩ := hP.2.2 a (by rw [hk]; have := vw_lt q1; omega)
  refine put_core (v := tv G (rv x)) C q1 q2 q5 q6 r2 hk (rf_fit q4 G x).1 (rf_fit q4 G x).2 hP hS hdg (fun H1 locs1 hz hw1 hS1 => kk p e R s m args below meth c H1 locs1 cells slots lv C a1 a2 a3 a4 (hP.same rfl rfl hz ?_) hS1 hl)
  rw [← wl_setR q1 q2 q3 q4 hk h3 hn]; exact hw1
end EV
end
section
theorem ix_nat {i : Int32} {j : Nat} (h : i.toInt = (j : Int)) : i.toNatClampNeg = j := by
  show i.toInt.toNat = j
  rw [h]; rfl
theorem ix_in {i : Int32} {j n : Nat} (h : i.toInt = (j : Int)) (hj : j < n) : vp_in i n := vp_in_iff.mpr ⟨by rw [h]; omega, by rw [h]; omega⟩
theorem ix_nn {i : Int32} {j : Nat} (h : i.toInt = (j : Int)) : ¬ i < 0 := by
  intro hc
  have := Int32.lt_iff_toInt_lt.mp hc
  simp at this
  omega
def kdT : Nat → FieldType := fun kd => match kd with
  | 13 => .int
  | 14 => .boolean
  | 15 => .object "java/lang/Object"
  | 16 => .object "MadeMended$Piece"
  | 17 => .object "MadeMended$Rule"
  | _ => .object "MadeMended$Thing"
theorem aTy_at (G : aG) {kd : Nat} (h1 : 13 ≤ kd) (h2 : kd ≤ 18) : (aTy G)[kd - 13]? = some (gC G kd, kdT kd) := by
  rcases (show kd = 13 ∨ kd = 14 ∨ kd = 15 ∨ kd = 16 ∨ kd = 17 ∨ kd = 18 by omega) with rfl | rfl | rfl | rfl | rfl | rfl <;> rfl
section EV
variable {l : Launch} {G : aG} {d mc ms : Nat} {M : aM} {pc : Nat} {ls st : List Value} {h : aH} {Q : Option Value → aH → Prop}
theorem wl_rowI {H : Heap} {a kd : Nat} (hP : aRp G h H) (hk : hK h a = kd) (hc : kd = 13 ∨ kd = 14) : (wl G h)[a - 3]? = some (ad G a, .inl (gC G kd, hL h a, .inl (hX h a))) := by
  obtain ⟨h3, hn⟩ := hP.2.2 a (by rw [hk]; omega)
  rw [wl_get G h3 hn, aCl_int hk hc]
theorem wl_rowQ {H : Heap} {a kd : Nat} (hP : aRp G h H) (hk : hK h a = kd) (h1 : 15 ≤ kd) (h2 : kd ≤ 18) : (wl G h)[a - 3]? = some (ad G a, .inl (gC G kd, hL h a, .inr (.inr (.inr (.inr (fun j => (hY h a j).map (ad G))))))) := by
  obtain ⟨h3, hn⟩ := hP.2.2 a (by rw [hk]; omega)
  rw [wl_get G h3 hn, aCl_ref hk h1]
theorem wl_obj {H : Heap} {a ci : Nat} (hP : aRp G h H) (hk : hK h a = ci) (hc : ci < 13) : (wl G h)[a - 3]? = some (ad G a, .inr (ci, fvs G h ci a)) := by
  obtain ⟨h3, hn⟩ := hP.2.2 a (by rw [hk]; omega)
  rw [wl_get G h3 hn, aCl_obj hk hc]
theorem Ev_iald {i : Int32} {a : Nat} (j : Nat) (hdg : decode M.2.1 pc = .ok (.iaload, 1)) (hk : hK h a = 13) (hi : i.toInt = (j : Int)) (hj : j < hL h a) (kk : Ev l G d mc ms M (pc + 1) ls (.int (hX h a j) :: st) h Q) : Ev l G d mc ms M pc ls (.int i :: .ref a :: st) h Q := by
  intro p e R s m args below meth c H locs cells slots lv C a1 a2 a3 a4 hP hS hl
  refine va_iald C.1 C.2.1 C.2.2.2.2.2.2.2.2.1 hP.2.1 (a - 3) 0 (wl_rowI hP hk (Or.inl rfl)) rfl (ix_in hi hj) hdg ?_
  rw [ix_nat hi]
  exact kk p e R s m args below meth c H locs cells slots lv C a1 a2 a3 a4 hP hS hl
theorem Ev_zald {i : Int32} {a : Nat} (j : Nat) (hdg : decode M.2.1 pc = .ok (.baload, 1)) (hk : hK h a = 14) (hi : i.toInt = (j : Int)) (hj : j < hL h a) (kk : Ev l G d mc ms M (pc + 1) ls (.int (hX h a j) :: st) h Q) : Ev l G d mc ms M pc ls (.int i :: .ref a :: st) h Q := by
  intro p e R s m args below meth c H locs cells slots lv C a1 a2 a3 a4 hP hS hl
  refine va_zald C.1 C.2.1 C.2.2.2.2.2.2.2.2.1 hP.2.1 (a - 3) 1 (wl_rowI hP hk (Or.inr rfl)) rfl (ix_in hi hj) hdg ?_
  rw [ix_nat hi]
  exact kk p e R s m args below meth c H locs cells slots lv C a1 a2 a3 a4 hP hS hl
theorem Ev_aald {i : Int32} {a kd : Nat} (j : Nat) (hdg : decode M.2.1 pc = .ok (.aaload, 1)) (hk : hK h a = kd) (h1 : 15 ≤ kd) (h2 : kd ≤ 18) (hi : i.toInt = (j : Int)) (hj : j < hL h a) (kk : Ev l G d mc ms M (pc + 1) ls (rv (hY h a j) :: st) h Q) : Ev l G d mc ms M pc ls (.int i :: .ref a :: st) h Q := by
  intro p e R s m args below meth c H locs cells slots lv C a1 a2 a3 a4 hP hS hl
  have hT : ∃ E, kdT kd = .object E := by rcases (show kd = 15 ∨ kd = 16 ∨ kd = 17 ∨ kd = 18 by omega) with rfl | rfl | rfl | rfl <;> exact ⟨_, rfl⟩
  obtain ⟨E, hE⟩ := hT
  refine va_aldq (C := E) C.1 C.2.1 C.2.2.2.2.2.2.2.2.1 hP.2.1 (a - 3) (kd - 13) (wl_rowQ hP hk h1 h2) (by rw [aTy_at G (by omega) h2, hE]) (ix_in hi hj) hdg ?_
  rw [ix_nat hi, ← tv_rv]
  exact kk p e R s m args below meth c H locs cells slots lv C a1 a2 a3 a4 hP hS hl
theorem Ev_alen {a kd : Nat} (hdg : decode M.2.1 pc = .ok (.arraylength, 1)) (hk : hK h a = kd) (h1 : 13 ≤ kd) (h2 : kd ≤ 18) (kk : Ev l G d mc ms M (pc + 1) ls (.int (nI (hL h a)) :: st) h Q) : Ev l G d mc ms M pc ls (.ref a :: st) h Q := by
  intro p e R s m args below meth c H locs cells slots lv C a1 a2 a3 a4 hP hS hl
  by_cases hc : kd = 13 ∨ kd = 14
  · exact va_alen C.1 C.2.1 C.2.2.2.2.2.2.2.2.1 hP.2.1 (a - 3) (kd - 13) (wl_rowI hP hk hc) (aTy_at G h1 h2) rfl hdg (kk p e R s m args below meth c H locs cells slots lv C a1 a2 a3 a4 hP hS hl)
  · exact va_alen C.1 C.2.1 C.2.2.2.2.2.2.2.2.1 hP.2.1 (a - 3) (kd - 13) (wl_rowQ hP hk (by omega) h2) (aTy_at G h1 h2) rfl hdg (kk p e R s m args below meth c H locs cells slots lv C a1 a2 a3 a4 hP hS hl)
theorem Ev_sld {i : Int32} (j : Nat) (hdg : decode M.2.1 pc = .ok (.iaload, 1)) (hi : i.toInt = (j : Int)) (hj : j < gL G) (kk : Ev l G d mc ms M (pc + 1) ls (.int (gX G j) :: st) h Q) : Ev l G d mc ms M pc ls (.int i :: .ref 0 :: st) h Q := by
  intro p e R s m args below meth c H locs cells slots lv C a1 a2 a3 a4 hP hS hl
  have hw := C.2.2.2.2.2.2.2.2
  refine va_sld (A := fun q => gB G ≤ q) (H0 := s.heap) C.1 C.2.1 hw.2.1 (Nat.lt_of_lt_of_le hw.2.2.1 hw.2.2.2.2.2.2.2.1) (by have := hw.2.2.1; omega) hS (ix_in hi hj) hdg ?_
  rw [ix_nat hi]
  exact kk p e R s m args below meth c H locs cells slots lv C a1 a2 a3 a4 hP hS hl
theorem Ev_slen (hdg : decode M.2.1 pc = .ok (.arraylength, 1)) (kk : Ev l G d mc ms M (pc + 1) ls (.int (nI (gL G)) :: st) h Q) : Ev l G d mc ms M pc ls (.ref 0 :: st) h Q := by
  intro p e R s m args below meth c H locs cells slots lv C a1 a2 a3 a4 hP hS hl
  have hw := C.2.2.2.2.2.2.2.2
  exact va_slen (b := gb G) (A := fun q => gB G ≤ q) (H0 := s.heap) C.1 C.2.1 hw.2.1 (Nat.lt_of_lt_of_le hw.2.2.1 hw.2.2.2.2.2.2.2.1) (by have := hw.2.2.1; omega) hS hdg (kk p e R s m args below meth c H locs cells slots lv C a1 a2 a3 a4 hP hS hl)
theorem Ev_elen (hdg : decode M.2.1 pc = .ok (.arraylength, 1)) (kk : Ev l G d mc ms M (pc + 1) ls (.int (nI 0) :: st) h Q) : Ev l G d mc ms M pc ls (.ref 1 :: st) h Q := by
  intro p e R s m args below meth c H locs cells slots lv C a1 a2 a3 a4 hP hS hl
  have hw := C.2.2.2.2.2.2.2.2
  exact va_tlen (A := fun q => gB G ≤ q) C.1 C.2.1 hw.2.2.2.2.1 hS rfl hdg (kk p e R s m args below meth c H locs cells slots lv C a1 a2 a3 a4 hP hS hl)
theorem Ev_gets {idx : Nat} (hdg : decode M.2.1 pc = .ok (.getstatic idx, 3)) (hl0 : Cond.fieldLink M.1.cls idx "java/util/ArrayList" "DEFAULTCAPACITY_EMPTY_ELEMENTDATA" "[Ljava/lang/Object;" ∈ aTs) (kk : Ev l G d mc ms M (pc + 3) ls (.ref 1 :: st) h Q) : Ev l G d mc ms M pc ls st h Q := by
  intro p e R s m args below meth c H locs cells slots lv C a1 a2 a3 a4 hP hS hl
  have hw := C.2.2.2.2.2.2.2.2
  exact va_gets (A := fun q => gB G ≤ q) C.1 C.2.1 hw.2.2.2.1 hS C.2.2.2.2.1 (C.2.2.2.2.2.1 _ hl0) (fun _ h9 => h9) hdg (kk p e R s m args below meth c H locs cells slots lv C a1 a2 a3 a4 hP hS hl)
theorem wl_setX {H : Heap} {a kd : Nat} {f : Nat → Int32} {h' : aH} (hP : aRp G h H) (hk : hK h a = kd) (hc : kd = 13 ∨ kd = 14) (e1 : hN h' = hN h) (e2 : hK h' = hK h) (e3 : hI h' = hI h) (e4 : hR h' = hR h) (e5 : hL h' = hL h) (e6 : hY h' = hY h) (e7 : hX h' a = f) (e8 : ∀ b, b ≠ a → hX h' b = hX h b) : (wl G h).set (a - 3) (ad G a, .inl (gC G kd, hL h a, .inl f)) = wl G h' := by
  obtain ⟨h3, hn⟩ := hP.2.2 a (by rw [hk]; omega)
  rw [← wl_set G (h := h) (h' := h') h3 hn e1 (fun b hb => aCl_eq (by rw [e2]) (fun k => by rw [e3]) (fun k => by rw [e4]) (by rw [e5]) (e8 b hb) (by rw [e6])), aCl_int (h := h') (kd := kd) (by rw [e2]; exact hk) hc, e5, e7]
theorem wl_setY {H : Heap} {a kd : Nat} {f : Nat → Option Nat} {h' : aH} (hP : aRp G h H) (hk : hK h a = kd) (h1 : 15 ≤ kd) (h2 : kd ≤ 18) (e1 : hN h' = hN h) (e2 : hK h' = hK h) (e3 : hI h' = hI h) (e4 : hR h' = hR h) (e5 : hL h' = hL h) (e6 : hX h' = hX h) (e7 : (fun j => (hY h' a j).map (ad G)) = f) (e8 : ∀ b, b ≠ a → hY h' b = hY h b) : (wl G h).set (a - 3) (ad G a, .inl (gC G kd, hL h a, .inr (.inr (.inr (.inr f))))) = wl G h' := by
  obtain ⟨h3, hn⟩ := hP.2.2 a (by rw [hk]; omega)
  rw [← wl_set G (h := h) (h' := h') h3 hn e1 (fun b hb => aCl_eq (by rw [e2]) (fun k => by rw [e3]) (fun k => by rw [e4]) (by rw [e5]) (by rw [e6]) (e8 b hb)), aCl_ref (h := h') (kd := kd) (by rw [e2]; exact hk) h1, e5, e7]
theorem Ev_iast {i x : Int32} {a : Nat} (j : Nat) (hdg : decode M.2.1 pc = .ok (.iastore, 1)) (hk : hK h a = 13) (hi : i.toInt = (j : Int)) (hj : j < hL h a) (kk : Ev l G d mc ms M (pc + 1) ls st (sX h a j x) Q) : Ev l G d mc ms M pc ls (.int x :: .int i :: .ref a :: st) h Q := by
  intro p e R s m args below meth c H locs cells slots lv C a1 a2 a3 a4 hP hS hl
  have ha := wl_rowI hP hk (Or.inl rfl)
  have hD := wl_D G h
  refine W.iast C.1 C.2.1 (hP.2.1 _ _ ha) ((C.2.2.2.2.2.2.2.2.1.2 0 _ rfl).1 (hL h a) (fun j => .int (hX h a j))) (fun q => by cases q) (by show ¬ (i < 0 ∨ (arrV _ _ _).slots.size ≤ _); rw [arrV_size]; exact ix_in hi hj) rfl rfl hdg fun H1 e0 z oq => ?_
  refine kk p e R s m args below meth c H1 _ cells slots lv C a1 a2 a3 a4 (hP.same rfl rfl z ?_) (hS.put z oq (hD.2 _ _ ha)) hl
  rw [← wl_setX (h' := sX h a j x) hP hk (Or.inl rfl) rfl rfl rfl rfl rfl rfl rfl (fun b hb => by
    funext q; exact if_neg hb)]
  refine hP.2.1.set hD ha ?_ oq
  show H1[ad G a]? = some (vp_cell _ _)
  rw [e0, ix_nat hi, vp_cell_i, vp_cell_i, arrV_store]
  congr 2
  funext q
  show updV _ _ _ _ = Value.int (up2 (hX h) a j x a q)
  by_cases hq : q = j
  · subst hq
    simp [updV, up2]
  · simp [updV, up2, hq]
theorem Ev_zast {i x : Int32} {a : Nat} (j : Nat) (hdg : decode M.2.1 pc = .ok (.bastore, 1)) (hk : hK h a = 14) (hx : x = 0 ∨ x = 1) (hi : i.toInt = (j : Int)) (hj : j < hL h a) (kk : Ev l G d mc ms M (pc + 1) ls st (sX h a j x) Q) : Ev l G d mc ms M pc ls (.int x :: .int i :: .ref a :: st) h Q := by
  intro p e R s m args below meth c H locs cells slots lv C a1 a2 a3 a4 hP hS hl
  have ha := wl_rowI hP hk (Or.inr rfl)
  have hD := wl_D G h
  refine W.zast C.1 C.2.1 (hP.2.1 _ _ ha) ((C.2.2.2.2.2.2.2.2.1.2 1 _ rfl).1 (hL h a) (fun j => .int (hX h a j))) (fun q => by cases q) (by show ¬ (i < 0 ∨ (arrV _ _ _).slots.size ≤ _); rw [arrV_size]; exact ix_in hi hj) rfl rfl hdg fun H1 e0 z oq => ?_
  refine kk p e R s m args below meth c H1 _ cells slots lv C a1 a2 a3 a4 (hP.same rfl rfl z ?_) (hS.put z oq (hD.2 _ _ ha)) hl
  rw [← wl_setX (h' := sX h a j x) hP hk (Or.inr rfl) rfl rfl rfl rfl rfl rfl rfl (fun b hb => by
    funext q; exact if_neg hb)]
  refine hP.2.1.set hD ha ?_ oq
  show H1[ad G a]? = some (vp_cell _ _)
  have hnx : narrow .boolean (.int x) = .int x := by rcases hx with rfl | rfl <;> rfl
  rw [e0, hnx, ix_nat hi, vp_cell_i, vp_cell_i, arrV_store]
  congr 2
  funext q
  show updV _ _ _ _ = Value.int (up2 (hX h) a j x a q)
  by_cases hq : q = j
  · subst hq
    simp [updV, up2]
  · simp [updV, up2, hq]
end EV
end
section
section EV
variable {l : Launch} {G : aG} {d mc ms : Nat} {M : aM} {pc : Nat} {ls st : List Value} {h : aH} {Q : Option Value → aH → Prop}
theorem aRp.grow {H H1 : Heap} {h' : aH} (hP : aRp G h H) (hz : H1.size = H.size + 1) (ho : ∀ q, q < H.size → H1[q]? = H[q]?) (en : hN h' = hN h + 1) (ek : ∀ a, a ≠ hN h + 3 → hK h' a = hK h a) (ec : ∀ b, b < hN h + 3 → aCl G h' b = aCl G h b) (hat : va_at (gD G) vwCl (gB G + hN h, aCl G h' (hN h + 3)) H1) : aRp G h' H1 := by
  refine ⟨by rw [hz, hP.1, en]; omega, ?_, fun a ha => ?_⟩
  · rw [← wl_push G en ec]
    refine (hP.2.1.kept (fun k q hk => ho q.1 (hP.2.1 k q hk).lt)).app (fun k x hx => ?_)
    have hz : k < 1 := (List.getElem?_eq_some_iff.mp hx).1
    rw [show k = 0 by omega] at hx
    cases hx
    exact hat
  · by_cases hb : a = hN h + 3
    · rw [hb, en]; omega
    · have := hP.2.2 a (by rw [← ek a hb]; exact ha)
      rw [en]; omega
theorem S_grow {s : State} {H H1 : Heap} {locs : List Loc} (hS : va_S (fun q => gB G ≤ q) s.heap H locs) (hz : H1.size = H.size + 1) (ho : ∀ q, q < H.size → H1[q]? = H[q]?) : va_S (fun q => gB G ≤ q) s.heap H1 locs := ⟨Nat.le_trans hS.1 (by omega), fun x h1 h2 => (ho x (Nat.lt_of_lt_of_le h1 hS.1)).trans (hS.2.1 x h1 h2), hS.2.2⟩
theorem aCl_nO {ci b : Nat} (hb : b < hN h + 3) : aCl G (nO h ci) b = aCl G h b :=
  aCl_eq (up1_n _ _ (by omega)) (fun _ => if_neg (by omega)) (fun _ => if_neg (by omega)) rfl rfl rfl
theorem aCl_nA {kd n b : Nat} (hb : b < hN h + 3) : aCl G (nA h kd n) b = aCl G h b :=
  aCl_eq (up1_n _ _ (by omega)) (fun _ => rfl) (fun _ => rfl) (up1_n _ _ (by omega)) (up1_n _ _ (by omega)) (up1_n _ _ (by omega))
theorem fv_dflt {ci j : Nat} (hj : j < fn ci) (hty : fT ci j = .int ∨ fT ci j = .boolean ∨ rfT (fT ci j) = true) : defaultValue (fT ci j) = fv G (nO h ci) ci j (hN h + 3) := by
  have e1 : hI (nO h ci) (64 * ci + j) (hN h + 3) = 0 := if_pos rfl
  have e2 : hR (nO h ci) (64 * ci + j) (hN h + 3) = none := if_pos rfl
  unfold fv
  rw [e1, e2]
  rcases hty with hy | hy | hy
  · rw [hy]; rfl
  · rw [hy]; rfl
  · rw [if_pos hy]
    cases hf : fT ci j <;> rw [hf] at hy <;> first | rfl | (simp [rfT] at hy)
theorem ty_ok {ci : Nat} {r : vw_C} (h : vwCl[ci]? = some r) : ∀ j, j < r.2.2 → fT ci j = .int ∨ fT ci j = .boolean ∨ rfT (fT ci j) = true := by
  have hl := vw_lt h
  match ci, h with
  | 0, h | 1, h | 2, h | 3, h | 4, h | 5, h | 6, h | 7, h | 8, h | 9, h | 10, h | 11, h | 12, h => cases h; decide +kernel
  | n + 13, h => exact absurd hl (by omega)
/-- a class's place in a constant table, and that it can be made -/
def aNl (own : String) (idx ci : Nat) : Prop := ∃ (C : String) (T : u_T) (N : Nat), vwCl[ci]? = some (C, T, N) ∧ Cond.classLink own idx C ∈ aTs ∧ Cond.instantiable C N ∈ aTs ∧ Cond.initialized C ∈ aTs
theorem Ev_new {idx ci : Nat} (hdg : decode M.2.1 pc = .ok (.new idx, 3)) (hn : aNl M.1.cls idx ci) (kk : Ev l G d mc ms M (pc + 3) ls (.ref (hN h + 3) :: st) (nO h ci) Q) : Ev l G d (mc + 1) (ms + fn ci) M pc ls st h Q := by
  intro p e R s m args below meth c H locs cells slots lv C a1 a2 a3 a4 hP hS hl
  obtain ⟨K, T, N, q1, q2, q3, q4⟩ := hn
  have hts := C.2.2.2.2.2.1
  have hKn := C.2.2.2.2.2.2.2.2.1.1 ci _ q1
  have hfn : fn ci = N := fn_eq q1
  rw [hfn] at a4
  refine W.newcK C.1 C.2.1 C.2.2.2.2.1 (hts _ q2) (hts _ q3) (hts _ q4) rfl hdg (by omega) (by omega) hKn.2.1 rfl fun H1 kC hkC e1 z1 o1 => ?_
  have ha : ad G (hN h + 3) = H.size := by rw [ad_3 G (by omega), hP.1]; omega
  have hr : aRp G (nO h ci) H1 := by
    refine hP.grow z1 o1 rfl (fun a ha => up1_n _ _ ha) (fun b hb => aCl_nO hb) ?_
    rw [aCl_obj (h := nO h ci) (up1_s _ _ _) (vw_lt q1)]
    refine ⟨_, q1, (u_born (fT ci) hts (us_in q1) hKn hkC ?_ (ty_all q1).1).to (fun j hj => ?_)⟩
    · rw [← hP.1]; exact e1
    · rw [vp_V, List.getD_eq_getElem?_getD, fvs_at (by rw [hfn]; exact hj)]
      exact fv_dflt (by rw [hfn]; exact hj) (ty_ok q1 j hj)
  have hz : List.map (tv G) (Value.ref (hN h + 3) :: st) = Value.ref H.size :: st.map (tv G) := by
    rw [← ha]; rfl
  have K1 := kk p e R s m args below meth c H1 locs (cells + 1) (slots + N) lv C a1 a2 (by omega) (by omega) hr (S_grow hS z1 o1) hl
  rw [hz] at K1
  exact K1
theorem Ev_newa {kd : Nat} {n : Int32} {aty : ArrayType} (N : Nat) (hdg : decode M.2.1 pc = .ok (.newarray aty, 2)) (hty : newarray.typeOf aty = kdT kd) (hkd : kd = 13 ∨ kd = 14) (hw : Cond.arrayClass (kdT kd) ∈ aTs) (hn : n.toInt = (N : Int)) (hbig : N ≤ 100000) (kk : Ev l G d mc ms M (pc + 2) ls (.ref (hN h + 3) :: st) (nA h kd N) Q) : Ev l G d (mc + 1) (ms + N) M pc ls (.int n :: st) h Q := by
  intro p e R s m args below meth c H locs cells slots lv C a1 a2 a3 a4 hP hS hl
  have hts := C.2.2.2.2.2.1
  have hb4 : componentBytes (kdT kd) ≤ 8 := by rcases hkd with rfl | rfl <;> decide
  refine va_newaK (N := N) C.1 C.2.1 (by rw [hty]; exact hts _ hw) rfl hdg rfl (ix_nn hn) (ix_nat hn) (by rw [hty]; exact Nat.le_trans (Nat.mul_le_mul hbig hb4) (by decide)) (by omega) (by omega) rfl fun H1 cA e1 z1 o1 hAr hNm => ?_
  rw [hty] at hAr hNm e1
  have ha : ad G (hN h + 3) = H.size := by rw [ad_3 G (by omega), hP.1]; omega
  have hcA : cA = gC G kd := by
    have h2 := (C.2.2.2.2.2.2.2.2.1.2 (kd - 13) _ (aTy_at G (by omega) (by omega))).2
    rcases hkd with rfl | rfl <;> exact Option.some.inj (hNm.symm.trans h2)
  subst hcA
  have hr : aRp G (nA h kd N) H1 := by
    refine hP.grow z1 o1 rfl (fun a ha => up1_n _ _ ha) (fun b hb => aCl_nA hb) ?_
    rw [aCl_int (h := nA h kd N) (kd := kd) (up1_s _ _ _) hkd]
    show H1[gB G + hN h]? = some (vp_cell _ _)
    rw [← hP.1, e1, show hL (nA h kd N) (hN h + 3) = N from up1_s _ _ _, show hX (nA h kd N) (hN h + 3) = (fun _ => 0) from up1_s _ _ _, vp_cell_i]
    rcases hkd with rfl | rfl <;> rfl
  have hz : List.map (tv G) (Value.ref (hN h + 3) :: st) = Value.ref H.size :: st.map (tv G) := by
    rw [← ha]; rfl
  have K1 := kk p e R s m args below meth c H1 locs (cells + 1) (slots + N) lv C a1 a2 (by omega) (by omega) hr (S_grow hS z1 o1) hl
  rw [hz] at K1
  exact K1
theorem Ev_newq {kd idx : Nat} {n : Int32} {E : String} (N : Nat) (hdg : decode M.2.1 pc = .ok (.anewarray idx, 3)) (hty : kdT kd = .object E) (hkd : 15 ≤ kd) (hkd2 : kd ≤ 18) (hw : Cond.classLink M.1.cls idx E ∈ aTs) (hw2 : Cond.arrayOver (.object E) ∈ lw_tbl) (hn : n.toInt = (N : Int)) (hbig : N ≤ 100000) (kk : Ev l G d mc ms M (pc + 3) ls (.ref (hN h + 3) :: st) (nA h kd N) Q) : Ev l G d (mc + 1) (ms + N) M pc ls (.int n :: st) h Q := by
  intro p e R s m args below meth c H locs cells slots lv C a1 a2 a3 a4 hP hS hl
  have hts := C.2.2.2.2.2.1
  have hov : va_AO E s := C.2.2.2.2.2.2.2.2.2.2.2.2.2.2.1 _ hw2 rfl
  have hnn := ix_nat hn
  refine W.anew C.1 C.2.1 C.2.2.2.2.1 (hts _ hw) (va_AO.use hov) rfl hdg rfl (ix_nn hn) (by rw [hnn]; exact Nat.le_trans (Nat.mul_le_mul hbig (Nat.le_refl 4)) (by decide)) (by omega) (by rw [hnn]; omega) fun cA kA comp f1 f2 f3 f4 => ?_
  rw [hnn]
  generalize hH1 : H.push ({ cls := cA, slots := Array.replicate N .null, vm := .none } : Cell) = H1
  have z1 : H1.size = H.size + 1 := by rw [← hH1, Array.size_push]
  have e1 : H1[H.size]? = some (arrV cA N (fun _ => .null)) := by rw [← hH1, Array.getElem?_push_size, ← arrV_new]
  have o1 : ∀ q : Nat, q < H.size → H1[q]? = H[q]? := fun q hq => by rw [← hH1, Array.getElem?_push, if_neg (Nat.ne_of_lt hq)]
  have ha : ad G (hN h + 3) = H.size := by rw [ad_3 G (by omega), hP.1]; omega
  have hcA : cA = gC G kd := by
    have h2 := (C.2.2.2.2.2.2.2.2.1.2 (kd - 13) _ (aTy_at G (by omega) hkd2)).2
    rw [hty] at h2
    obtain ⟨-, -, -, -, -, h4⟩ := h2
    exact Option.some.inj (f1.symm.trans h4)
  subst hcA
  have hr : aRp G (nA h kd N) H1 := by
    refine hP.grow z1 o1 rfl (fun a ha => up1_n _ _ ha) (fun b hb => aCl_nA hb) ?_
    rw [aCl_ref (h := nA h kd N) (kd := kd) (up1_s _ _ _) hkd]
    show H1[gB G + hN h]? = some (vp_cell _ _)
    rw [← hP.1, e1, show hL (nA h kd N) (hN h + 3) = N from up1_s _ _ _, show hY (nA h kd N) (hN h + 3) = (fun _ => none) from up1_s _ _ _, vp_cell_q]
    rfl
  have hz : List.map (tv G) (Value.ref (hN h + 3) :: st) = Value.ref H.size :: st.map (tv G) := by
    rw [← ha]; rfl
  have K1 := kk p e R s m args below meth c H1 locs (cells + 1) (slots + N) lv C a1 a2 (by omega) (by omega) hr (S_grow hS z1 o1) hl
  rw [hz] at K1
  exact K1
end EV
end
section
section EV
variable {l : Launch} {G : aG} {d mc ms : Nat} {M : aM} {pc : Nat} {ls st : List Value} {h : aH} {Q : Option Value → aH → Prop}
theorem kdT_o {kd : Nat} (h1 : 15 ≤ kd) (h2 : kd ≤ 18) : ∃ E, kdT kd = .object E := by rcases (show kd = 15 ∨ kd = 16 ∨ kd = 17 ∨ kd = 18 by omega) with rfl | rfl | rfl | rfl <;> exact ⟨_, rfl⟩
theorem Ev_aastN {i : Int32} {a kd : Nat} (j : Nat) (hdg : decode M.2.1 pc = .ok (.aastore, 1)) (hk : hK h a = kd) (h1 : 15 ≤ kd) (h2 : kd ≤ 18) (hi : i.toInt = (j : Int)) (hj : j < hL h a) (kk : Ev l G d mc ms M (pc + 1) ls st (sY h a j none) Q) : Ev l G d mc ms M pc ls (.null :: .int i :: .ref a :: st) h Q := by
  intro p e R s m args below meth c H locs cells slots lv C a1 a2 a3 a4 hP hS hl
  obtain ⟨E, hE⟩ := kdT_o h1 h2
  have ha := wl_rowQ hP hk h1 h2
  have hD := wl_D G h
  have hty : (aTy G)[kd - 13]? = some (gC G kd, .object E) := by rw [aTy_at G (by omega) h2, hE]
  refine va_WaastN (C := E) C.1 C.2.1 (hP.2.1 _ _ ha) ((C.2.2.2.2.2.2.2.2.1.2 (kd - 13) _ hty).1 (hL h a) (fun j => va_rf ((hY h a j).map (ad G)))) (fun q => by cases q) (by show ¬ (i < 0 ∨ (arrV _ _ _).slots.size ≤ _); rw [arrV_size]; exact ix_in hi hj) rfl rfl hdg fun H1 e0 z oq => ?_
  refine kk p e R s m args below meth c H1 _ cells slots lv C a1 a2 a3 a4 (hP.same rfl rfl z ?_) (hS.put z oq (hD.2 _ _ ha)) hl
  rw [← wl_setY (h' := sY h a j none) hP hk h1 h2 rfl rfl rfl rfl rfl rfl rfl (fun b hb => by
    funext q; exact if_neg hb)]
  refine hP.2.1.set hD ha ?_ oq
  show H1[ad G a]? = some (vp_cell _ _)
  rw [e0, ix_nat hi, vp_cell_q, vp_cell_q, arrV_store]
  congr 2
  funext q
  show updV _ _ _ _ = va_rf ((up2 (hY h) a j none a q).map (ad G))
  by_cases hq : q = j
  · subst hq
    simp [updV, up2, va_rf]
  · simp [updV, up2, hq]
theorem Ev_aast {i : Int32} {a b kd ci : Nat} {E : String} {r : vw_C} (j : Nat) (hdg : decode M.2.1 pc = .ok (.aastore, 1)) (hk : hK h a = kd) (h1 : 15 ≤ kd) (h2 : kd ≤ 18) (hE : kdT kd = .object E) (hb : hK h b = ci) (hc : vwCl[ci]? = some r) (hcast : r.1 = E ∨ Cond.castable r.1 E ∈ lw_tbl) (hi : i.toInt = (j : Int)) (hj : j < hL h a) (kk : Ev l G d mc ms M (pc + 1) ls st (sY h a j (some b)) Q) : Ev l G d mc ms M pc ls (.ref b :: .int i :: .ref a :: st) h Q := by
  intro p e R s m args below meth c H locs cells slots lv C a1 a2 a3 a4 hP hS hl
  have ha := wl_rowQ hP hk h1 h2
  have hD := wl_D G h
  have hKK := C.2.2.2.2.2.2.2.2.1
  have hty : (aTy G)[kd - 13]? = some (gC G kd, .object E) := by rw [aTy_at G (by omega) h2, hE]
  obtain ⟨r', hr', cellV, g1, g2, g3, -⟩ := hP.2.1 _ _ (wl_obj hP hb (vw_lt hc))
  have hcls := (hKK.1 ci r hc).2
  obtain ⟨kA, comp, k1, k2, k3, -⟩ := (hKK.2 (kd - 13) _ hty).2
  obtain ⟨kE, hkE, -⟩ := Vm.findClass_spec k3
  obtain ⟨kC, hkC, -⟩ := hcls.2
  have has : s.vm.assignable ((gD G).1 ci) comp = true := by
    rcases hcast with he | hca
    · rw [← he] at k3
      have hcomp : comp = (gD G).1 ci := Option.some.inj (k3.symm.trans hcls.1)
      rw [hcomp]; exact va_assign hcls
    · have hca := C.2.2.2.2.2.2.2.2.2.2.2.2.2.2.1 _ hca rfl
      obtain ⟨c0, t1, f1, f2, f3⟩ := Cond.castable_spec (va_Nw.use (A := args) rfl hca)
      cases hcls.1.symm.trans f1
      cases k3.symm.trans f2
      exact f3
  refine W.aast C.1 C.2.1 (hP.2.1 _ _ ha) (fun q h => by cases h) (fun h => by cases h) k1 k2 rfl hkE ⟨ix_nn hi, by show _ < (arrV _ _ _).slots.size; rw [arrV_size, ix_nat hi]; exact hj⟩ g1 (fun q h => by rw [g3] at h; cases h) (by rw [g2]; exact hkC) (by rw [g2]; exact has) rfl rfl hdg fun H1 e0 z oq => ?_
  refine kk p e R s m args below meth c H1 _ cells slots lv C a1 a2 a3 a4 (hP.same rfl rfl z ?_) (hS.put z oq (hD.2 _ _ ha)) hl
  rw [← wl_setY (h' := sY h a j (some b)) hP hk h1 h2 rfl rfl rfl rfl rfl rfl rfl (fun b hb => by
    funext q; exact if_neg hb)]
  refine hP.2.1.set hD ha ?_ oq
  show H1[ad G a]? = some (vp_cell _ _)
  rw [e0, ix_nat hi, vp_cell_q, vp_cell_q, arrV_store]
  congr 2
  funext q
  show updV _ _ _ _ = va_rf ((up2 (hY h) a j (some b) a q).map (ad G))
  by_cases hq : q = j
  · subst hq
    simp [updV, up2, va_rf]
  · simp [updV, up2, hq]
/-- an object's class, as the calls and casts want it -/
theorem aRecv {p : Program} {s : State} {m : MethodId} {args : Array Value} {meth : Method} {c : Code} {H : Heap} {a ci : Nat} {r : vw_C} (C : aCx G M p s m args meth c) (hP : aRp G h H) (hk : hK h a = ci) (hc : vwCl[ci]? = some r) : ∃ cell : Cell, H[ad G a]? = some cell ∧ cell.vm.isStatics = false ∧ s.vm.findClass r.1 = some cell.cls :=
  va_recv C.2.2.2.2.2.2.2.2.1 hP.2.1 hc (wl_obj hP hk (vw_lt hc))
theorem Ev_cast {idx a ci : Nat} {r : vw_C} (hdg : decode M.2.1 pc = .ok (.checkcast idx, 3)) (hk : hK h a = ci) (hc : vwCl[ci]? = some r) (hw : Cond.classLink M.1.cls idx r.1 ∈ aTs) (kk : Ev l G d mc ms M (pc + 3) ls (.ref a :: st) h Q) : Ev l G d mc ms M pc ls (.ref a :: st) h Q := by
  intro p e R s m args below meth c H locs cells slots lv C a1 a2 a3 a4 hP hS hl
  exact va_castS C.1 C.2.1 C.2.2.2.2.1 (C.2.2.2.2.2.1 _ hw) (C.2.2.2.2.2.2.2.2.1.1 ci r hc).2 (aRecv C hP hk hc) hdg (kk p e R s m args below meth c H locs cells slots lv C a1 a2 a3 a4 hP hS hl)
theorem Ev_mirror {idx : Nat} (hdg : decode M.2.1 pc = .ok (.ldc idx, 2)) (hw : Cond.classLink M.1.cls idx "[Ljava/lang/Object;" ∈ aTs) (kk : Ev l G d mc ms M (pc + 2) ls (.ref 2 :: st) h Q) : Ev l G d mc ms M pc ls st h Q := by
  intro p e R s m args below meth c H locs cells slots lv C a1 a2 a3 a4 hP hS hl
  exact va_ldcM C.1 C.2.1 C.2.2.2.2.1 (C.2.2.2.2.2.1 _ hw) C.2.2.2.2.2.2.2.2.2.2.2.2.2.1 hdg (kk p e R s m args below meth c H locs cells slots lv C a1 a2 a3 a4 hP hS hl)
theorem cat_sum (G : aG) {st : List Value} (h : st.all okv = true) : ((st.map (tv G)).map fun v => v.category).sum = st.length := by
  induction st with
  | nil => rfl
  | cons v st ih =>
    simp only [List.all_cons, Bool.and_eq_true] at h
    simp only [List.map_cons, List.sum_cons, List.length_cons, okv_cat G h.1, ih h.2]
    omega
theorem Ev_objI {idx a : Nat} (hdg : decode M.2.1 pc = .ok (.invokespecial idx, 3)) (hd : 1 ≤ d) (hst : st.all okv = true) (hlen : st.length ≤ 8) (hw : Cond.methodLink M.1.cls idx objectInit ∈ aTs) (hw2 : Cond.instanceMethod objectInit ∈ aTs) (hw3 : Cond.code objectInit ⟨#[0xb1]⟩ 1 none ∈ aTs) (kk : Ev l G d mc ms M (pc + 3) ls st h Q) : Ev l G d mc ms M pc ls (.ref a :: st) h Q := by
  intro p e R s m args below meth c H locs cells slots lv C a1 a2 a3 a4 hP hS hl
  have hts := C.2.2.2.2.2.1
  refine W.objInit C.1 C.2.1 C.2.2.2.2.1 (hts _ hw) (hts _ hw2) (hts _ hw3) rfl (by rw [C.2.2.1]; exact hl.1) rfl hdg (by omega) (by show 2 * 0 + ((st.map (tv G)).map fun v => v.category).sum + 12 ≤ R.locals; rw [cat_sum G hst]; omega) ?_
  exact kk p e R s m args below meth c H locs cells slots lv C a1 a2 a3 a4 hP hS hl
theorem Ev_getC {idx a : Nat} (hdg : decode M.2.1 pc = .ok (.invokevirtual idx, 3)) (hd : 1 ≤ d) (hst : st.all okv = true) (hlen : st.length ≤ 8) (hk : hK h a = 15) (hw : Cond.methodLink M.1.cls idx ⟨"java/lang/Object", "getClass", "()Ljava/lang/Class;"⟩ ∈ aTs) (hw2 : Cond.declares ⟨"java/lang/Object", "getClass", "()Ljava/lang/Class;"⟩ ∈ lw_tbl) (hw3 : Cond.selects "[Ljava/lang/Object;" ⟨"java/lang/Object", "getClass", "()Ljava/lang/Class;"⟩ ⟨"java/lang/Object", "getClass", "()Ljava/lang/Class;"⟩ ∈ aTs) (hw4 : Cond.instanceMethod ⟨"java/lang/Object", "getClass", "()Ljava/lang/Class;"⟩ ∈ aTs) (hw5 : Cond.native ⟨"java/lang/Object", "getClass", "()Ljava/lang/Class;"⟩ ∈ aTs) (kk : Ev l G d mc ms M (pc + 3) ls (.ref 2 :: st) h Q) : Ev l G d mc ms M pc ls (.ref a :: st) h Q := by
  intro p e R s m args below meth c H locs cells slots lv C a1 a2 a3 a4 hP hS hl
  have hts := C.2.2.2.2.2.1
  have hty : (aTy G)[2]? = some (gC G 15, .object "java/lang/Object") := rfl
  refine va_getC (C := "[Ljava/lang/Object;") C.1 C.2.1 (by rw [C.2.2.1]; exact hl.1.symm) C.2.2.2.2.1 (hts _ hw) (va_Nw.use (A := args) rfl (C.2.2.2.2.2.2.2.2.2.2.2.2.2.2.1 _ hw2 rfl)) (hts _ hw3) (hts _ hw4) (hts _ hw5) C.2.2.2.2.2.2.2.2.2.2.2.2.2.1 ?_ (by omega) (by rw [cat_sum G hst]; omega) hdg (kk p e R s m args below meth c H locs cells slots lv C a1 a2 a3 a4 hP hS hl)
  exact ⟨_, hP.2.1 _ _ (wl_rowQ hP hk (by omega) (by omega)), rfl, va_nmO (C.2.2.2.2.2.2.2.2.1.2 2 _ hty).2 (by decide)⟩
end EV
end
section
theorem ix_of_nat (z : Int32) (hz : ¬ z < 0) : z.toInt = (z.toNatClampNeg : Int) := by
  have hz0 : (0 : Int) ≤ z.toInt := by
    have := Int32.not_lt.mp hz
    simpa using Int32.le_iff_toInt_le.mp this
  show z.toInt = ((z.toInt.toNat : Nat) : Int)
  omega
theorem cpy_map {α β : Type} (g : α → β) (f f2 : Nat → α) (a b n : Nat) : (fun j => g (va_cpy f f2 a b n j)) = va_cpy (fun j => g (f j)) (fun j => g (f2 j)) a b n := by
  funext j
  unfold va_cpy
  split <;> rfl
section EV
variable {l : Launch} {G : aG} {d mc ms : Nat} {M : aM} {pc : Nat} {ls st : List Value} {h : aH} {Q : Option Value → aH → Prop}
theorem Ev_copyI {idx a a0 : Nat} {sp dp n : Int32} (sp' dp' n' : Nat) (hdg : decode M.2.1 pc = .ok (.invokestatic idx, 3)) (hd : 1 ≤ d) (hst : st.all okv = true) (hlen : st.length ≤ 8) (hk0 : hK h a0 = 13) (hk1 : hK h a = 13) (w1 : Cond.methodLink M.1.cls idx arraycopyName ∈ aTs) (w2 : Cond.native arraycopyName ∈ aTs) (w3 : Cond.static arraycopyName ∈ aTs) (w4 : Cond.initialized "java/lang/System" ∈ aTs)
    (e1 : sp.toInt = (sp' : Int)) (e2 : dp.toInt = (dp' : Int)) (e3 : n.toInt = (n' : Int)) (b1 : sp' + n' ≤ hL h a0) (b2 : dp' + n' ≤ hL h a) (kk : Ev l G d mc ms M (pc + 3) ls st (sXs h a (va_cpy (hX h a0) (hX h a) sp' dp' n')) Q) : Ev l G d mc ms M pc ls (.int n :: .int dp :: .ref a :: .int sp :: .ref a0 :: st) h Q := by
  intro p e R s m args below meth c H locs cells slots lv C a1 a2 a3 a4 hP hS hl T hT X
  have hts := C.2.2.2.2.2.1
  have hKK := C.2.2.2.2.2.2.2.2.1
  have hw0 := wl_rowI hP hk0 (Or.inl rfl)
  have hw1 := wl_rowI hP hk1 (Or.inl rfl)
  have hD := wl_D G h
  have hty : (aTy G)[0]? = some (gC G 13, .int) := rfl
  have hc0 : H[ad G a0]? = some (vp_cell (gC G 13) (hL h a0, .inl (hX h a0))) := hP.2.1 _ _ hw0
  have hc1 : H[ad G a]? = some (vp_cell (gC G 13) (hL h a, .inl (hX h a))) := hP.2.1 _ _ hw1
  obtain ⟨-, k0, hk0', cm0, hkk0⟩ := (hKK.2 0 _ hty).1 (hL h a0) (fun j => .int (hX h a0 j))
  have hn1 := ix_nat e1
  have hn2 := ix_nat e2
  have hn3 := ix_nat e3
  obtain ⟨vm', X', step⟩ := X.arraycopy C.1 C.2.2.2.2.1 (hts _ w1) (hts _ w2) (hts _ w3) (hts _ w4) (src := ad G a0) (dst := ad G a) (cs := vp_cell (gC G 13) (hL h a0, .inl (hX h a0))) (cd := vp_cell (gC G 13) (hL h a, .inl (hX h a))) (srcPos := sp) (destPos := dp) (n := n) (by rw [hT]; exact hc0) (by rw [hT]; exact hc1)
    (fun _ h => by cases h) (fun _ h => by cases h) (fun h => by cases h) (fun h => by cases h) hk0' hk0' hkk0 hkk0 (by simp) (ix_nn e1) (ix_nn e2) (ix_nn e3)
    (by rw [e1, e3]; show ¬ _ > ((arrV _ (hL h a0) (fun j => .int (hX h a0 j))).slots.size : Int); rw [arrV_size]; omega)
    (by rw [e2, e3]; show ¬ _ > ((arrV _ (hL h a) (fun j => .int (hX h a j))).slots.size : Int); rw [arrV_size]; omega)
    (fun vm₁ _ i hi => by
      have e0 : (vp_cell (gC G 13) (hL h a0, .inl (hX h a0))).slots.getD (sp.toNatClampNeg + i) .null = .int (hX h a0 (sp.toNatClampNeg + i)) := by
        show (arrV _ (hL h a0) (fun j => .int (hX h a0 j))).slots.getD _ _ = _
        rw [Array.getD_eq_getD_getElem?, arrV_read _ _ (by omega)]
        rfl
      refine ⟨?_, ?_⟩
      · rw [e0]; rfl
      · rw [e0]; exact trivial)
    (g := F0 m pc lv (List.map (tv G) (.int n :: .int dp :: .ref a :: .int sp :: .ref a0 :: st))) rfl (by rw [C.2.2.1]; exact hl.1) (rest := st.map (tv G)) rfl (by rw [C.2.1]; exact hdg) (by omega) (by
      show 2 * 0 + ((st.map (tv G)).map fun v => v.category).sum + _ ≤ _
      rw [cat_sum G hst]
      have hw : nativeFrameWords "java/lang/System" "arraycopy" 5 ≤ 20 := by decide
      omega)
  have ec : copied (vp_cell (gC G 13) (hL h a0, .inl (hX h a0))) (vp_cell (gC G 13) (hL h a, .inl (hX h a))) sp dp n = vp_cell (gC G 13) (hL h a, .inl (va_cpy (hX h a0) (hX h a) sp.toNatClampNeg dp.toNatClampNeg n.toNatClampNeg)) := va_copied (fun z => .int z) _ _ (hX h a0) (hX h a) (by omega)
  rw [ec, hn1, hn2, hn3] at X' step
  have hlt : ad G a < H.size := (Array.getElem?_eq_some_iff.mp hc1).1
  have hheap : ((T.setVm vm').setCell (ad G a) (vp_cell (gC G 13) (hL h a, .inl (va_cpy (hX h a0) (hX h a) sp' dp' n')))).heap = H.setIfInBounds (ad G a) (vp_cell (gC G 13) (hL h a, .inl (va_cpy (hX h a0) (hX h a) sp' dp' n'))) := by rw [← hT]; rfl
  have oq : ∀ q : Nat, q ≠ ad G a → (H.setIfInBounds (ad G a) (vp_cell (gC G 13) (hL h a, .inl (va_cpy (hX h a0) (hX h a) sp' dp' n'))))[q]? = H[q]? := fun q hq => by simp [Array.getElem?_setIfInBounds, Ne.symm hq]
  have hr : aRp G (sXs h a (va_cpy (hX h a0) (hX h a) sp' dp' n')) (H.setIfInBounds (ad G a) (vp_cell (gC G 13) (hL h a, .inl (va_cpy (hX h a0) (hX h a) sp' dp' n')))) := by
    refine hP.same rfl rfl (by simp) ?_
    rw [← wl_setX (h' := sXs h a (va_cpy (hX h a0) (hX h a) sp' dp' n')) hP hk1 (Or.inl rfl) rfl rfl rfl rfl rfl rfl (up1_s _ _ _) (fun b hb => up1_n _ _ hb)]
    exact hP.2.1.set hD hw1 (show (H.setIfInBounds (ad G a) _)[ad G a]? = some _ by simp [Array.getElem?_setIfInBounds, hlt]) oq
  obtain ⟨t, b1, b2⟩ := kk p e R s m args below meth c _ _ cells slots lv C a1 a2 a3 a4 hr ⟨by simp; exact hS.1, fun q g1 g2 => by
      rw [oq q (fun e => g2 (by rw [e]; exact hD.2 _ _ hw1))]
      exact hS.2.1 q g1 g2, fun q hq => by
      rcases List.mem_append.mp hq with h | h
      · exact hS.2.2 q h
      · obtain ⟨z, -, hz⟩ := List.mem_map.mp h
        rw [← hz]
        exact hD.2 _ _ hw1⟩ hl _ hheap X'
  exact ⟨t, step t b1, b2⟩
theorem Ev_copyQ {idx a a0 ci : Nat} {r : vw_C} {sp dp n : Int32} (sp' dp' n' : Nat) (hdg : decode M.2.1 pc = .ok (.invokestatic idx, 3)) (hd : 1 ≤ d) (hst : st.all okv = true) (hlen : st.length ≤ 8) (hk0 : hK h a0 = 15) (hk1 : hK h a = 15) (w1 : Cond.methodLink M.1.cls idx arraycopyName ∈ aTs) (w2 : Cond.native arraycopyName ∈ aTs) (w3 : Cond.static arraycopyName ∈ aTs) (w4 : Cond.initialized "java/lang/System" ∈ aTs) (hc : vwCl[ci]? = some r) (hcast : Cond.castable r.1 "java/lang/Object" ∈ lw_tbl)
    (e1 : sp.toInt = (sp' : Int)) (e2 : dp.toInt = (dp' : Int)) (e3 : n.toInt = (n' : Int)) (b1 : sp' + n' ≤ hL h a0) (b2 : dp' + n' ≤ hL h a) (hel : ∀ i, i < n' → ∀ y, hY h a0 (sp' + i) = some y → hK h y = ci) (kk : Ev l G d mc ms M (pc + 3) ls st (sYs h a (va_cpy (hY h a0) (hY h a) sp' dp' n')) Q) : Ev l G d mc ms M pc ls (.int n :: .int dp :: .ref a :: .int sp :: .ref a0 :: st) h Q := by
  intro p e R s m args below meth c H locs cells slots lv C a1 a2 a3 a4 hP hS hl T hT X
  have hts := C.2.2.2.2.2.1
  have hKK := C.2.2.2.2.2.2.2.2.1
  have hw0 := wl_rowQ hP hk0 (by omega) (by omega)
  have hw1 := wl_rowQ hP hk1 (by omega) (by omega)
  have hD := wl_D G h
  have hty : (aTy G)[2]? = some (gC G 15, .object "java/lang/Object") := rfl
  generalize hf0 : (fun j => (hY h a0 j).map (ad G)) = f0 at hw0
  generalize hf1 : (fun j => (hY h a j).map (ad G)) = f1 at hw1
  have hc0 : H[ad G a0]? = some (vp_cell (gC G 15) (hL h a0, .inr (.inr (.inr (.inr f0))))) := hP.2.1 _ _ hw0
  have hc1 : H[ad G a]? = some (vp_cell (gC G 15) (hL h a, .inr (.inr (.inr (.inr f1))))) := hP.2.1 _ _ hw1
  obtain ⟨-, k0, hk0', cm0, hkk0⟩ := (hKK.2 2 _ hty).1 (hL h a0) (fun j => va_rf (f0 j))
  have hn1 := ix_nat e1
  have hn2 := ix_nat e2
  have hn3 := ix_nat e3
  have hca := C.2.2.2.2.2.2.2.2.2.2.2.2.2.2.1 _ hcast rfl
  obtain ⟨cc0, tt1, ff1, ff2, ff3⟩ := Cond.castable_spec (va_Nw.use (A := args) rfl hca)
  obtain ⟨vm', X', step⟩ := X.arraycopy C.1 C.2.2.2.2.1 (hts _ w1) (hts _ w2) (hts _ w3) (hts _ w4) (src := ad G a0) (dst := ad G a) (cs := vp_cell (gC G 15) (hL h a0, .inr (.inr (.inr (.inr f0))))) (cd := vp_cell (gC G 15) (hL h a, .inr (.inr (.inr (.inr f1))))) (srcPos := sp) (destPos := dp) (n := n) (by rw [hT]; exact hc0) (by rw [hT]; exact hc1)
    (fun _ h => by cases h) (fun _ h => by cases h) (fun h => by cases h) (fun h => by cases h) hk0' hk0' hkk0 hkk0 rfl (ix_nn e1) (ix_nn e2) (ix_nn e3)
    (by rw [e1, e3]; show ¬ _ > ((arrV _ (hL h a0) (fun j => va_rf (f0 j))).slots.size : Int); rw [arrV_size]; omega)
    (by rw [e2, e3]; show ¬ _ > ((arrV _ (hL h a) (fun j => va_rf (f1 j))).slots.size : Int); rw [arrV_size]; omega)
    (fun vm₁ hal i hi => by
      have e0 : (vp_cell (gC G 15) (hL h a0, .inr (.inr (.inr (.inr f0))))).slots.getD (sp.toNatClampNeg + i) .null = va_rf (f0 (sp.toNatClampNeg + i)) := by
        show (arrV _ (hL h a0) (fun j => va_rf (f0 j))).slots.getD _ _ = _
        rw [Array.getD_eq_getD_getElem?, arrV_read _ _ (by omega)]
        rfl
      rw [e0]
      cases hy : f0 (sp.toNatClampNeg + i) with
      | none => exact ⟨rfl, trivial⟩
      | some y =>
        rw [← hf0, hn1] at hy
        obtain ⟨y', hy1, hy2⟩ := Option.map_eq_some_iff.mp hy
        obtain ⟨cellV, g1, g2, g3⟩ := aRecv C hP (hel i (by omega) y' hy1) hc
        rw [hy2] at g1
        obtain ⟨kA, comp, r1, r2, r3, -⟩ := (hKK.2 2 _ hty).2
        cases hk0'.symm.trans r1
        cases hkk0.symm.trans r2
        obtain ⟨kC, hkC, -⟩ := Vm.findClass_spec g3
        obtain ⟨kE, hkE, -⟩ := Vm.findClass_spec r3
        obtain ⟨kC', hkC', -⟩ := hal.2.2 _ _ hkC
        obtain ⟨kE', hkE', -⟩ := hal.2.2 _ _ hkE
        refine ⟨rfl, cellV, (show T.heap[y]? = some cellV by rw [hT]; exact g1), (fun q h => by rw [h] at g2; cases g2), ⟨kC', hkC'⟩, ?_, ?_⟩
        · exact ⟨kE', hkE'⟩
        · show vm₁.assignable _ _ = true
          rw [hal.assignable]
          cases g3.symm.trans ff1
          cases r3.symm.trans ff2
          exact ff3)
    (g := F0 m pc lv (List.map (tv G) (.int n :: .int dp :: .ref a :: .int sp :: .ref a0 :: st))) rfl (by rw [C.2.2.1]; exact hl.1) (rest := st.map (tv G)) rfl (by rw [C.2.1]; exact hdg) (by omega) (by
      show 2 * 0 + ((st.map (tv G)).map fun v => v.category).sum + _ ≤ _
      rw [cat_sum G hst]
      have hw : nativeFrameWords "java/lang/System" "arraycopy" 5 ≤ 20 := by decide
      omega)
  have ec : copied (vp_cell (gC G 15) (hL h a0, .inr (.inr (.inr (.inr f0))))) (vp_cell (gC G 15) (hL h a, .inr (.inr (.inr (.inr f1))))) sp dp n = vp_cell (gC G 15) (hL h a, .inr (.inr (.inr (.inr (va_cpy f0 f1 sp.toNatClampNeg dp.toNatClampNeg n.toNatClampNeg))))) := va_copied (fun z => va_rf z) _ _ f0 f1 (by omega)
  rw [ec, hn1, hn2, hn3] at X' step
  have hlt : ad G a < H.size := (Array.getElem?_eq_some_iff.mp hc1).1
  generalize hnc : vp_cell (gC G 15) (hL h a, .inr (.inr (.inr (.inr (va_cpy f0 f1 sp' dp' n'))))) = nc at X' step
  have hheap : ((T.setVm vm').setCell (ad G a) nc).heap = H.setIfInBounds (ad G a) nc := by rw [← hT]; rfl
  have oq : ∀ q : Nat, q ≠ ad G a → (H.setIfInBounds (ad G a) nc)[q]? = H[q]? := fun q hq => by simp [Array.getElem?_setIfInBounds, Ne.symm hq]
  have hr : aRp G (sYs h a (va_cpy (hY h a0) (hY h a) sp' dp' n')) (H.setIfInBounds (ad G a) nc) := by
    refine hP.same rfl rfl (by simp) ?_
    rw [← wl_setY (f := va_cpy f0 f1 sp' dp' n') (h' := sYs h a (va_cpy (hY h a0) (hY h a) sp' dp' n')) hP hk1 (by omega) (by omega) rfl rfl rfl rfl rfl rfl (by
      rw [show hY (sYs h a (va_cpy (hY h a0) (hY h a) sp' dp' n')) a = va_cpy (hY h a0) (hY h a) sp' dp' n' from up1_s _ _ _, cpy_map, hf0, hf1]) (fun b hb => up1_n _ _ hb)]
    refine hP.2.1.set hD hw1 ?_ oq
    show (H.setIfInBounds (ad G a) nc)[ad G a]? = some (vp_cell _ _)
    rw [hnc]
    simp [Array.getElem?_setIfInBounds, hlt]
  obtain ⟨t, b1, b2⟩ := kk p e R s m args below meth c _ _ cells slots lv C a1 a2 a3 a4 hr ⟨by simp; exact hS.1, fun q g1 g2 => by
      rw [oq q (fun e => g2 (by rw [e]; exact hD.2 _ _ hw1))]
      exact hS.2.1 q g1 g2, fun q hq => by
      rcases List.mem_append.mp hq with h | h
      · exact hS.2.2 q h
      · obtain ⟨z, -, hz⟩ := List.mem_map.mp h
        rw [← hz]
        exact hD.2 _ _ hw1⟩ hl _ hheap X'
  exact ⟨t, step t b1, b2⟩
end EV
end
section
theorem aTs_good : ∀ w ∈ aTs, (w.onTables && w.keeps) = true ∨ ∃ ty, w = .arrayClass ty := fun w hw => good_of_word (List.mem_filter.mp hw).2
def en (n : Nat) (avs : List Value) : List Value := avs ++ List.replicate (n - avs.length) (.retAddr 0)
theorem lg_sl_ok (G : aG) : ∀ {avs : List Value}, avs.all okv = true → lg_sl (avs.map (tv G)) = avs.map (fun v => Slot.val (tv G v)) := by
  intro avs
  induction avs with
  | nil => intro _; rfl
  | cons v avs ih =>
    intro h
    simp only [List.all_cons, Bool.and_eq_true] at h
    have h1 := okv_cat G h.1
    show (if (tv G v).category = 2 then _ else _) ++ lg_sl (avs.map (tv G)) = _
    rw [h1, ih h.2]
    rfl
theorem lv_args_ok (G : aG) : ∀ {avs : List Value} (i : Nat), avs.all okv = true → ∀ (j : Nat) (v : Value), avs[j]? = some v → (i + j, tv G v) ∈ lv_args i (avs.map (tv G)) := by
  intro avs
  induction avs with
  | nil => intro i _ j v hj; simp at hj
  | cons w avs ih =>
    intro i h j v hj
    simp only [List.all_cons, Bool.and_eq_true] at h
    have h1 := okv_cat G h.1
    show _ ∈ (i, tv G w) :: lv_args (if (tv G w).category = 2 then i + 2 else i + 1) (avs.map (tv G))
    rw [h1]
    cases j with
    | zero =>
      simp at hj
      subst hj
      exact List.mem_cons_self
    | succ j =>
      refine List.mem_cons_of_mem _ ?_
      have := ih (i + 1) h.2 j v (by simpa using hj)
      rw [show i + (j + 1) = i + 1 + j by omega]
      exact this
theorem aLv_entry (G : aG) {avs : List Value} {n : Nat} (h : avs.all okv = true) (hn : avs.length ≤ n) : aLv G ((lg_sl (avs.map (tv G)) ++ List.replicate (n - (lg_sl (avs.map (tv G))).length) Slot.unset).toArray) n (en n avs) := by
  have hl : (lg_sl (avs.map (tv G))).length ≤ n := by rw [lg_sl_ok G h, List.length_map]; exact hn
  obtain ⟨h1, h2, h3⟩ := lv_entry (avs.map (tv G)) (n := n) hl
  refine ⟨h1, h2, by simp [en]; omega, fun i v hi hv => ?_⟩
  unfold en at hi
  rw [List.getElem?_append] at hi
  split at hi
  · have := lv_args_ok G 0 h i v hi
    rw [Nat.zero_add] at this
    exact h3 _ this
  · rw [List.getElem?_replicate] at hi
    split at hi
    · cases hi; cases hv
    · cases hi
def aWs (M : aM) : List Cond := Cond.code M.1 M.2.1 M.2.2.1 M.2.2.2 :: aTs
def aPc (G : aG) (avs : List Value) (h : aH) : Array Value → State → Prop := va_Pc (avs.map (tv G)) (fun U => aRp G h U.heap ∧ aWd G U U.heap)
section EV
variable {l : Launch} {G : aG} {d mc ms : Nat} {M : aM} {pc : Nat} {ls st : List Value} {h : aH} {Q : Option Value → aH → Prop}
theorem ev_met {avs : List Value} (hy : plainName M.1.cls = true) (hok : avs.all okv = true) (hn : avs.length ≤ M.2.2.1) (hC : Ev l G d mc ms M 0 (en M.2.2.1 avs) [] h Q) : Met l M.1 (aWs M) ({ frames := d, cells := mc, slots := ms, locals := 40 * d }) (aPc G avs h) (aQ G Q) mc ms (fun q => gB G ≤ q) := by
  refine Met.ofW (cc := M.2.1) (maxL := M.2.2.1) (ret := M.2.2.2) hy rfl ?_
  intro p e s m args below meth c s₁ B hml hv
  obtain ⟨rfl, hRp, hWd⟩ := hv
  have hts := atoms_spec (ws := aWs M) B.pre
  rw [lg_entry_eq]
  exact hC p e _ s m _ below meth c s.heap [] 0 0 _ ⟨B.exec, B.bytes, hml, B.returns, findClass_of_methodNamed B.named, fun w hw => hts w (List.mem_cons_of_mem _ hw), B.notSynchronized, fun hz => (name_of_methodNamed B.named B.method).1.trans hz, hWd⟩ (Nat.le_refl _) (Nat.le_refl _) (Nat.le_of_eq (Nat.zero_add _)) (Nat.le_of_eq (Nat.zero_add _)) hRp va_S.rf (aLv_entry G hok hn)
theorem aPc_blind {avs : List Value} : FrameBlind (aPc G avs h) := by
  intro a U g mk hq
  obtain ⟨h1, h2, h3⟩ := hq
  refine ⟨h1, h2, ?_⟩
  obtain ⟨w1, w2, w3, w4, w5, w6, w7, w8, w9⟩ := h3
  have al : U.vm.Alike (U.calling g mk a).vm := Vm.Alike.refl U.vm
  exact ⟨va_K.moved al w1, w2.moved al, w3, w4.moved al, w5.moved al, w6.moved al, fun w hw hk => (show w.before #[] (U.calling g mk a) = true from by
    have h9 := w7 w hw hk
    cases w with
    | castable => exact va_Nw.same rfl rfl h9
    | methodLinkNest => exact va_Nw.same rfl rfl h9
    | declares => exact va_Nw.same rfl rfl h9
    | arrayOver t => cases t <;> first | (exact va_AO.moved al h9) | (simp [aWk] at hk)
    | _ => simp [aWk] at hk), w8, w9⟩
theorem aPc_pre {avs : List Value} {p : Program} {s : State} {m : MethodId} {args : Array Value} {meth : Method} {c : Code} {H : Heap} {locs : List Loc} (C : aCx G M p s m args meth c) (hP : aRp G h H) (hS : va_S (fun q => gB G ≤ q) s.heap H locs) : ∀ U : State, U.heap = H → s.WarmedH U.vm → aPc G avs h (avs.map (tv G)).toArray U := by
  intro U hU hW
  have hwd := C.2.2.2.2.2.2.2.2
  refine ⟨rfl, by rw [hU]; exact hP, ?_⟩
  rw [hU]
  exact hwd.warm hW (by rw [hP.1]; exact Nat.le_add_right _ _) (fun q hq => hS.2.1 q (Nat.lt_of_lt_of_le hq hwd.2.2.2.2.2.2.2.1) (by omega))
theorem call_fin {p : Program} {e : Env} {R : Room} {s : State} {m : MethodId} {args a : Array Value} {below : List Frame} {meth : Method} {c : Code} {H : Heap} {locs : List Loc} {cells slots : Nat} {lv : Array Slot} {st0 : List Value} {mc1 ms1 : Nat} {Q' : Option Value → aH → Prop} (C : aCx G M p s m args meth c) (a1 : d ≤ R.frames) (a2 : 40 * d ≤ R.locals) (a3 : cells + mc1 + mc ≤ R.cells) (a4 : slots + ms1 + ms ≤ R.slots) (hS : va_S (fun q => gB G ≤ q) s.heap H locs) (hl : aLv G lv M.2.2.1 ls)
    (hr : va_Run p l e R s m args below meth c H locs cells slots mc1 ms1 (F0 m pc lv st0) (st.map (tv G)) (aQ G Q' a) (fun q => gB G ≤ q)) (kk : ∀ v h', Q' v h' → Ev l G d mc ms M (pc + 3) ls (v.toList ++ st) h' Q) : W p l e R s m args below meth c H locs cells slots (MQ below (aQ G Q) args s R.cells R.slots (fun q => gB G ≤ q)) (F0 m pc lv st0) := by
  intro T hT X
  obtain ⟨v, st₀, t, T', L, h0, X', hL, e1, e2, ⟨v', h', e3, hq, hP', hpre, hsz⟩, go⟩ := hr T hT X
  have ev : v = v'.map (tv G) := Outcome.returned.inj e3
  subst ev
  rw [h0] at hpre hsz
  have hwd := C.2.2.2.2.2.2.2.2
  have hst : (v'.map (tv G)).toList ++ st.map (tv G) = List.map (tv G) (v'.toList ++ st) := by cases v' <;> rfl
  rw [hst] at go
  rw [← e1] at hP' hpre hsz
  obtain ⟨t2, b1, b2⟩ := kk v' h' hq p e R s m args below meth c T'.heap (locs ++ L) (cells + mc1) (slots + ms1) lv C a1 a2 (by omega) (by omega) hP' ⟨Nat.le_trans hS.1 hsz, fun q h1 h2 => by
      rw [hpre q (Nat.not_le.mp h2)]
      exact hS.2.1 q h1 h2, fun q hq => by
      rcases List.mem_append.mp hq with h | h
      · exact hS.2.2 q h
      · exact hL q h⟩ hl T' rfl X'
  exact ⟨t2, go t2 b1, b2⟩
/-- the callee's own words -/
def aCo (Mc : aM) (n : Nat) : Prop := Cond.code Mc.1 Mc.2.1 Mc.2.2.1 Mc.2.2.2 ∈ aTs ∧ Cond.initialized Mc.1.cls ∈ aTs ∧ Mc.1.cls ≠ "java/lang/invoke/MethodHandle" ∧ Mc.1.cls ≠ "java/lang/invoke/VarHandle" ∧ (parseMethodDescriptor Mc.1.desc).map (fun d => d.parameters.length) = some n ∧ plainName Mc.1.cls = true ∧ Mc.2.2.1 ≤ 20
theorem aWs_good (M : aM) {n : Nat} (h : aCo M n) : GoodIn aTs (aWs M) := by
  intro w hw
  rcases List.mem_cons.mp hw with e | hw
  · rw [e]; exact ⟨h.1, aTs_good _ h.1⟩
  · exact ⟨hw, aTs_good _ hw⟩
variable {mc1 ms1 idx n : Nat} {Mc : aM} {avs : List Value} {Q' : Option Value → aH → Prop}
theorem Ev_callS (hdg : decode M.2.1 pc = .ok (.invokestatic idx, 3)) (hco : aCo Mc n) (w1 : Cond.methodLink M.1.cls idx Mc.1 ∈ aTs) (w2 : Cond.static Mc.1 ∈ aTs) (hn : avs.length = n) (hok : avs.all okv = true) (hml : n ≤ Mc.2.2.1) (hst : st.all okv = true) (hlen : st.length ≤ 8) (hC : Ev l G d mc1 ms1 Mc 0 (en Mc.2.2.1 avs) [] h Q') (kk : ∀ v h', Q' v h' → Ev l G (d + 1) mc ms M (pc + 3) ls (v.toList ++ st) h' Q) : Ev l G (d + 1) (mc1 + mc) (ms1 + ms) M pc ls (avs.reverse ++ st) h Q := by
  intro p e R s m args below meth c H locs cells slots lv C a1 a2 a3 a4 hP hS hl
  have hts := C.2.2.2.2.2.1
  have hM := ev_met hco.2.2.2.2.2.1 hok (by omega) hC
  refine call_fin (a := (avs.map (tv G)).toArray) (mc1 := mc1) (ms1 := ms1) C a1 a2 (by omega) (by omega) hS hl ?_ kk
  exact va_runS (Ts := aTs) (As := avs.map (tv G)) (rest := st.map (tv G)) ⟨C.1, C.2.1, C.2.2.1, C.2.2.2.2.1, hts⟩ hM ⟨callB_of n hts (aWs_good Mc hco) rfl rfl rfl (hts _ hco.2.1) (hts _ w1) ⟨hco.2.2.1, hco.2.2.2.1, hco.2.2.2.2.1⟩ ⟨a1, by have := hco.2.2.2.2.2.2; show 8 + (Mc.2.2.1 + 11) + 40 * d ≤ R.locals; omega⟩, hts _ w2⟩ ⟨aPc_blind, aPc_pre C hP hS⟩ rfl (by rw [List.length_map]; exact hn) hl.1 (by rw [← List.map_reverse, ← List.map_append]) (lv_room (by rw [cat_sum G hst]; exact hlen)) hdg ⟨by omega, by omega⟩
theorem Ev_callSN {host : String} (hdg : decode M.2.1 pc = .ok (.invokestatic idx, 3)) (hco : aCo Mc n) (w1 : Cond.methodLinkNest M.1.cls idx Mc.1 host ∈ lw_tbl) (w2 : Cond.static Mc.1 ∈ aTs) (hn : avs.length = n) (hok : avs.all okv = true) (hml : n ≤ Mc.2.2.1) (hst : st.all okv = true) (hlen : st.length ≤ 8) (hC : Ev l G d mc1 ms1 Mc 0 (en Mc.2.2.1 avs) [] h Q') (kk : ∀ v h', Q' v h' → Ev l G (d + 1) mc ms M (pc + 3) ls (v.toList ++ st) h' Q) : Ev l G (d + 1) (mc1 + mc) (ms1 + ms) M pc ls (avs.reverse ++ st) h Q := by
  intro p e R s m args below meth c H locs cells slots lv C a1 a2 a3 a4 hP hS hl
  have hts := C.2.2.2.2.2.1
  have hM := ev_met hco.2.2.2.2.2.1 hok (by omega) hC
  refine call_fin (a := (avs.map (tv G)).toArray) (mc1 := mc1) (ms1 := ms1) C a1 a2 (by omega) (by omega) hS hl ?_ kk
  exact va_runSN (Ts := aTs) (As := avs.map (tv G)) (rest := st.map (tv G)) ⟨C.1, C.2.1, C.2.2.1, C.2.2.2.2.1, hts⟩ hM ⟨va_cnB n hts (aWs_good Mc hco) rfl rfl rfl (C.2.2.2.2.2.2.2.2.2.2.2.2.2.2.1 _ w1 rfl) (hts _ hco.2.1) ⟨hco.2.2.1, hco.2.2.2.1, hco.2.2.2.2.1⟩ ⟨a1, by have := hco.2.2.2.2.2.2; show 8 + (Mc.2.2.1 + 11) + 40 * d ≤ R.locals; omega⟩, hts _ w2, trivial⟩ ⟨aPc_blind, aPc_pre C hP hS⟩ rfl (by rw [List.length_map]; exact hn) hl.1 (by rw [← List.map_reverse, ← List.map_append]) (lv_room (by rw [cat_sum G hst]; exact hlen)) hdg ⟨by omega, by omega⟩
theorem Ev_callV {a ci : Nat} {r : vw_C} (hdg : decode M.2.1 pc = .ok (.invokevirtual idx, 3)) (hco : aCo Mc n) (w1 : Cond.methodLink M.1.cls idx Mc.1 ∈ aTs) (w2 : Cond.instanceMethod Mc.1 ∈ aTs) (w3 : Cond.selects r.1 Mc.1 Mc.1 ∈ aTs) (hk : hK h a = ci) (hc : vwCl[ci]? = some r) (hn : avs.length = n) (hok : avs.all okv = true) (hml : n + 1 ≤ Mc.2.2.1) (hst : st.all okv = true) (hlen : st.length ≤ 8) (hC : Ev l G d mc1 ms1 Mc 0 (en Mc.2.2.1 (.ref a :: avs)) [] h Q') (kk : ∀ v h', Q' v h' → Ev l G (d + 1) mc ms M (pc + 3) ls (v.toList ++ st) h' Q) : Ev l G (d + 1) (mc1 + mc) (ms1 + ms) M pc ls (avs.reverse ++ .ref a :: st) h Q := by
  intro p e R s m args below meth c H locs cells slots lv C a1 a2 a3 a4 hP hS hl
  have hts := C.2.2.2.2.2.1
  have hM := ev_met (avs := .ref a :: avs) hco.2.2.2.2.2.1 (by simp only [List.all_cons, hok]; rfl) (by simp; omega) hC
  refine call_fin (a := (Value.ref (ad G a) :: avs.map (tv G)).toArray) (mc1 := mc1) (ms1 := ms1) C a1 a2 (by omega) (by omega) hS hl ?_ kk
  exact va_runV (Ts := aTs) (C := r.1) (b := ad G a) (As := avs.map (tv G)) (rest := st.map (tv G)) ⟨C.1, C.2.1, C.2.2.1, C.2.2.2.2.1, hts⟩ hM ⟨callB_of n hts (aWs_good Mc hco) rfl rfl rfl (hts _ hco.2.1) (hts _ w1) ⟨hco.2.2.1, hco.2.2.2.1, hco.2.2.2.2.1⟩ ⟨a1, by have := hco.2.2.2.2.2.2; show 8 + (Mc.2.2.1 + 11) + 40 * d ≤ R.locals; omega⟩, hts _ w2, hts _ w3⟩ ⟨aPc_blind, aRecv C hP hk hc, aPc_pre C hP hS⟩ rfl (by rw [List.length_map]; exact hn) hl.1 (by rw [← List.map_reverse, List.map_append]; rfl) (lv_room (by rw [cat_sum G hst]; exact hlen)) hdg ⟨by omega, by omega⟩
theorem Ev_callI {a : Nat} (hdg : decode M.2.1 pc = .ok (.invokespecial idx, 3)) (hco : aCo Mc n) (hr : Mc.2.2.2 = none) (hi : Mc.1.name = "<init>") (w1 : Cond.methodLink M.1.cls idx Mc.1 ∈ aTs) (w2 : Cond.instanceMethod Mc.1 ∈ aTs) (hn : avs.length = n) (hok : avs.all okv = true) (hml : n + 1 ≤ Mc.2.2.1) (hst : st.all okv = true) (hlen : st.length ≤ 8) (hC : Ev l G d mc1 ms1 Mc 0 (en Mc.2.2.1 (.ref a :: avs)) [] h Q') (kk : ∀ v h', Q' v h' → Ev l G (d + 1) mc ms M (pc + 3) ls (v.toList ++ st) h' Q) : Ev l G (d + 1) (mc1 + mc) (ms1 + ms) M pc ls (avs.reverse ++ .ref a :: st) h Q := by
  intro p e R s m args below meth c H locs cells slots lv C a1 a2 a3 a4 hP hS hl
  have hts := C.2.2.2.2.2.1
  have hM := ev_met (avs := .ref a :: avs) hco.2.2.2.2.2.1 (by simp only [List.all_cons, hok]; rfl) (by simp; omega) hC
  refine call_fin (a := (Value.ref (ad G a) :: avs.map (tv G)).toArray) (mc1 := mc1) (ms1 := ms1) C a1 a2 (by omega) (by omega) hS hl ?_ kk
  exact va_runI (Ts := aTs) (bytes := Mc.2.1) (maxL := Mc.2.2.1) (b := ad G a) (As := avs.map (tv G)) (rest := st.map (tv G)) ⟨C.1, C.2.1, C.2.2.1, C.2.2.2.2.1, hts⟩ hM ⟨callB_of n hts (aWs_good Mc hco) (by unfold aWs; rw [hr]) rfl rfl (hts _ hco.2.1) (hts _ w1) ⟨hco.2.2.1, hco.2.2.2.1, hco.2.2.2.2.1⟩ ⟨a1, by have := hco.2.2.2.2.2.2; show 8 + (Mc.2.2.1 + 11) + 40 * d ≤ R.locals; omega⟩, hi, hts _ w2⟩ ⟨aPc_blind, aPc_pre (avs := .ref a :: avs) C hP hS⟩ rfl (by rw [List.length_map]; exact hn) hl.1 (by rw [← List.map_reverse, List.map_append]; rfl) (lv_room (by rw [cat_sum G hst]; exact hlen)) hdg ⟨by omega, by omega⟩
theorem Ev_callIN {a : Nat} {host : String} (hdg : decode M.2.1 pc = .ok (.invokespecial idx, 3)) (hco : aCo Mc n) (hr : Mc.2.2.2 = none) (hi : Mc.1.name = "<init>") (w1 : Cond.methodLinkNest M.1.cls idx Mc.1 host ∈ lw_tbl) (w2 : Cond.instanceMethod Mc.1 ∈ aTs) (hn : avs.length = n) (hok : avs.all okv = true) (hml : n + 1 ≤ Mc.2.2.1) (hst : st.all okv = true) (hlen : st.length ≤ 8) (hC : Ev l G d mc1 ms1 Mc 0 (en Mc.2.2.1 (.ref a :: avs)) [] h Q') (kk : ∀ v h', Q' v h' → Ev l G (d + 1) mc ms M (pc + 3) ls (v.toList ++ st) h' Q) : Ev l G (d + 1) (mc1 + mc) (ms1 + ms) M pc ls (avs.reverse ++ .ref a :: st) h Q := by
  intro p e R s m args below meth c H locs cells slots lv C a1 a2 a3 a4 hP hS hl
  have hts := C.2.2.2.2.2.1
  have hM := ev_met (avs := .ref a :: avs) hco.2.2.2.2.2.1 (by simp only [List.all_cons, hok]; rfl) (by simp; omega) hC
  refine call_fin (a := (Value.ref (ad G a) :: avs.map (tv G)).toArray) (mc1 := mc1) (ms1 := ms1) C a1 a2 (by omega) (by omega) hS hl ?_ kk
  exact va_runIN (Ts := aTs) (bytes := Mc.2.1) (maxL := Mc.2.2.1) (b := ad G a) (As := avs.map (tv G)) (rest := st.map (tv G)) ⟨C.1, C.2.1, C.2.2.1, C.2.2.2.2.1, hts⟩ hM ⟨va_cnB n hts (aWs_good Mc hco) (by unfold aWs; rw [hr]) rfl rfl (C.2.2.2.2.2.2.2.2.2.2.2.2.2.2.1 _ w1 rfl) (hts _ hco.2.1) ⟨hco.2.2.1, hco.2.2.2.1, hco.2.2.2.2.1⟩ ⟨a1, by have := hco.2.2.2.2.2.2; show 8 + (Mc.2.2.1 + 11) + 40 * d ≤ R.locals; omega⟩, hi, hts _ w2⟩ ⟨aPc_blind, aPc_pre (avs := .ref a :: avs) C hP hS⟩ rfl (by rw [List.length_map]; exact hn) hl.1 (by rw [← List.map_reverse, List.map_append]; rfl) (lv_room (by rw [cat_sum G hst]; exact hlen)) hdg ⟨by omega, by omega⟩
end EV
end
section
def R_law : String := "MadeMendedLaw"
def lw_P (b : Addr) (xs : List Int32) (args : Array Value) (s : State) : Prop := args = #[.ref b] ∧ s.IntsAt b xs ∧ xs.length ≤ 3072 ∧ (Jvm.Cond.and given_1 narrow_1).before args s = true
def lw_Q (_ : Array Value) (s : State) (o : Outcome) (t : State) : Prop := o = .returned (some (.int 1)) ∧ Framed s o t [] 600000 7302250
def lw_Z (below : List Frame) (a : Array Value) (s : State) : State → Prop := fun t => ∃ o, t.status = .running ∧ Ended t below o ∧ lw_Q a s o t
/-- the law's own end, with 1 on the stack, nothing written that was there before, its room as the claim has it -/
theorem lw_ret {p : Program} {l : Launch} {e : Env} {s : State} {m : MethodId} {below : List Frame} {meth : Method} {c : Code} {b : Nat} (hx : p.tables.exec = Jvm.exec) (hb : c.code = code) (hr : meth.sig.returnType = ret) (hlocks : meth.locks = false) {pc : Nat} {H : Heap} {ls : Array Slot} (hdg : decode code pc = .ok (.ireturn, 1)) : W p l e room_1 s m #[Value.ref b] below meth c H [] 600000 7302250 (lw_Z below #[Value.ref b] s) (F0 m pc ls [.int 1]) := by
  intro T hT X
  obtain ⟨fs, hret, hrun, hended, hW, hframe⟩ := X.leave (v := some (.int 1)) (hlocks := hlocks) (fun h => by rw [hr] at h; cases h)
  have hmeth' : T.vm.method? m = some meth := X.method'
  refine ⟨T.setFrames fs, ?_, .returned (some (.int 1)), hrun, hended, rfl, ⟨_, rfl⟩, hW, hframe⟩
  jvm_step X.here [X.here.top, hx, hb, hdg, hmeth', hr, ret, narrow_b1]
  (try refine ⟨rfl, ?_⟩); (try refine ⟨rfl, ?_⟩)
  first | (intro acts; rw [hret _ acts rfl rfl rfl]) | rw [hret _ _ rfl rfl rfl]
  exact Steps.refl _
/-- what holds at the law's entry: the machine, the code, the tables' words (any of lw_tbl by 'hts w (by decide +kernel)'), the script of L ints xs at the cell b, what the Statement gives of the start (any of its parts by flat_of_before) -/
def lw_At (p : Program) (s : State) (m : MethodId) (meth : Method) (c : Code) (b L : Nat) (xs : Nat → Int32) : Prop :=
  p.tables.exec = Jvm.exec ∧ c.code = code ∧ meth.sig.returnType = ret ∧ c.maxLocals = 4 ∧ s.vm.findClass R_law = some m.cls ∧ (∀ w ∈ lw_tbl, w.before #[Value.ref b] s = true) ∧ va_X b L xs s s.heap ∧ b < s.heap.size ∧ meth.locks = false ∧ (Jvm.Cond.and given_1 narrow_1).before #[Value.ref b] s = true
end
section
abbrev M_law : aM := (yL_law, cL_law, 4, some .boolean)
def h00 : aH := (0, fun _ => 99, fun _ _ => 0, fun _ _ => none, fun _ => 0, fun _ _ => 0, fun _ _ => none)
theorem inst_all : vwCl.all (fun r => decide (Cond.instantiable r.1 r.2.2 ∈ lw_tbl)) = true := by decide +kernel
theorem aTs_tbl {w : Cond} (h : w ∈ aTs) : w ∈ lw_tbl := (List.mem_filter.mp h).1
set_option maxHeartbeats 4000000 in
theorem start_of {p : Program} {e : Env} {s : State} {m : MethodId} {below : List Frame} {meth : Method} {c : Code} (l : Launch) {b L : Nat} {xs : Nat → Int32} (C0 : lw_At p s m meth c b L xs) (hEv : ∀ G : aG, gL G = L → gX G = xs → Ev l G 100 600000 7302250 M_law 0 (en 4 [.ref 0]) [] h00 (fun v _ => v = some (.int 1))) : W p l e room_1 s m #[Value.ref b] below meth c s.heap [] 0 0 (lw_Z below #[Value.ref b] s) (entryFrame m ([Value.ref b] : List Value).toArray 4) := by
  obtain ⟨hx, hb, hr, hml, hown, hts, hX, hbl, hlocks, hgv⟩ := C0
  have hg := flat_of_before _ hgv
  have kn : ∀ ci : Nat, ∃ (q : ClassId × (Nat → Nat)), ∀ r : vw_C, vwCl[ci]? = some r → u_Kn s r.1 r.2.1 r.2.2 q.1 q.2 := by
    intro ci
    cases hr : vwCl[ci]? with
    | none => exact ⟨(0, fun _ => 0), fun r h => by cases h⟩
    | some r =>
      have h1 : Cond.instantiable r.1 r.2.2 ∈ lw_tbl := of_decide_eq_true (List.all_eq_true.mp inst_all r (List.mem_of_getElem? hr))
      obtain ⟨c0, i0, h2⟩ := u_known (C := r.1) (T := r.2.1) (N := r.2.2) (n := r.2.2) hts (fun w hw => aTs_tbl (us_in hr w hw)) (hts _ h1)
      exact ⟨(c0, i0), fun r' h => by cases h; exact h2⟩
  obtain ⟨cI, kI, mI, i1, i2, i3⟩ := Cond.arrayClass_spec (hts (.arrayClass .int) (by decide +kernel))
  obtain ⟨cZ, kZ, mZ, z1, z2, z3⟩ := Cond.arrayClass_spec (hts (.arrayClass .boolean) (by decide +kernel))
  have ao : ∀ C : String, Cond.arrayOver (.object C) ∈ lw_tbl → ∃ cA : ClassId, ArrOfT s cA (.object C) ∧ va_RA s cA (.object C) := by
    intro C hC
    obtain ⟨comp, c1, k, h1, h2, h3, h4, h5⟩ := Cond.arrayOver_spec (hts _ hC)
    exact ⟨c1, fun N z => ⟨(fun k h => by cases h), k, h3, comp, h4⟩, k, comp, h3, h4, h1, h5⟩
  obtain ⟨cO, o1⟩ := ao "java/lang/Object" (by decide +kernel)
  obtain ⟨cP, p1⟩ := ao "MadeMended$Piece" (by decide +kernel)
  obtain ⟨cR, r1⟩ := ao "MadeMended$Rule" (by decide +kernel)
  obtain ⟨cT, t1⟩ := ao "MadeMended$Thing" (by decide +kernel)
  have hnA : ∀ a : Nat, a < s.heap.size → ¬ (fun q => s.heap.size ≤ q) a := fun a ha => Nat.not_le.mpr ha
  have hlen0 := va_eqt (hg (.eq (.length (.static "java/util/ArrayList" "DEFAULTCAPACITY_EMPTY_ELEMENTDATA" "[Ljava/lang/Object;")) (.int 0)) (by decide +kernel))
  obtain ⟨ea, he1, he2⟩ := va_Tof (N := 0) (f := fun _ => .null) (A := fun q => s.heap.size ≤ q) (by decide) (hg (.arrayOf (.static "java/util/ArrayList" "DEFAULTCAPACITY_EMPTY_ELEMENTDATA" "[Ljava/lang/Object;") (.object "java/lang/Object")) (by decide +kernel)) hlen0 (fun j hj => absurd hj (by omega)) hnA
  have he3 := va_Zref (A := fun q => s.heap.size ≤ q) (hts (.laysStatic "java/util/ArrayList" "DEFAULTCAPACITY_EMPTY_ELEMENTDATA" "[Ljava/lang/Object;") (by decide +kernel)) (hts (.initialized "java/util/ArrayList") (by decide +kernel)) he1 hnA
  obtain ⟨mi, hmi⟩ := va_Mi.of (hg (.isRef (.mirror "[Ljava/lang/Object;")) (by decide +kernel))
  have hea : ea < s.heap.size := by
    obtain ⟨cell, h1, -⟩ := he2
    exact (Array.getElem?_eq_some_iff.mp h1).1
  let G : aG := ((fun ci => (Classical.choose (kn ci)).1, fun ci => (Classical.choose (kn ci)).2), (fun kd => match kd with | 13 => cI | 14 => cZ | 15 => cO | 16 => cP | 17 => cR | _ => cT), s.heap.size, b, ea, mi, L, xs)
  have hK : va_K (gD G) vwCl (aTy G) s := by
    refine ⟨fun ci q hq => Classical.choose_spec (kn ci) q hq, fun k q hk => ?_⟩
    match k, hk with
    | 0, hk => cases hk; exact ⟨fun N z => ⟨(fun k h => by cases h), kI, i2, mI, i3⟩, i1⟩
    | 1, hk => cases hk; exact ⟨fun N z => ⟨(fun k h => by cases h), kZ, z2, mZ, z3⟩, z1⟩
    | 2, hk => cases hk; exact o1
    | 3, hk => cases hk; exact p1
    | 4, hk => cases hk; exact r1
    | 5, hk => cases hk; exact t1
    | k + 6, hk => simp [aTy] at hk
  have hW : aWd G s s.heap := ⟨hK, hX, hbl, he3, he2, hmi, fun w hw hk => by
    cases w with
    | castable => exact va_Nw.of rfl (hts _ hw)
    | methodLinkNest => exact va_Nw.of rfl (hts _ hw)
    | declares => exact va_Nw.of rfl (hts _ hw)
    | arrayOver t => cases t <;> first | (exact va_AO.of (hts _ hw)) | (simp [aWk] at hk)
    | _ => simp [aWk] at hk, Nat.le_refl _, hea⟩
  have hRp : aRp G h00 s.heap := ⟨rfl, fun k q hk => by simp [wl, h00, hN] at hk, fun a ha => absurd rfl ha⟩
  have hl := aLv_entry G (avs := [.ref 0]) (n := 4) rfl (by decide)
  have K := hEv G rfl rfl p e room_1 s m #[Value.ref b] below meth c s.heap [] 0 0 _ ⟨hx, hb, hml, hr, hown, fun w hw => hts w (aTs_tbl hw), hlocks, fun h => absurd h (by decide), hW⟩ (by decide) (by decide) (by decide) (by decide) hRp va_S.rf hl
  rw [lg_entry_eq]
  intro T hT X
  obtain ⟨t, q1, o, q2, q3, ⟨v, h', q4, q5, -⟩, Lc, q6, q7⟩ := K T hT X
  refine ⟨t, q1, o, q2, q3, ?_, q6.1, q6.2.1, ?_⟩
  · rw [q4, q5]; rfl
  · exact q6.2.2.weaken (fun y hy hlt => absurd hlt (Nat.not_lt.mpr (q7 y hy))) (Nat.le_refl _) (Nat.le_refl _)
end
