section
-- ===== PART A: goes FIRST, ahead of the names: the tables' words, and 'selects' of the private methods out of them =====
/-- a private method of a class that the tables say can be made, by its rows of tables_1 -/
def lw_okq (q : MethodName × Nat) : Prop := (q.1.cls ≠ "java/lang/invoke/MethodHandle" ∧ q.1.cls ≠ "java/lang/invoke/VarHandle") ∧ Cond.instantiable q.1.cls q.2 ∈ tables_1 ∧ Cond.privateMethod q.1 ∈ tables_1 ∧ Cond.instanceMethod q.1 ∈ tables_1
theorem lw_p0 : lw_okq (⟨"YesterdayScale", "found", "(I)I"⟩, 9) := ⟨⟨by decide +kernel, by decide +kernel⟩, List.mem_of_getElem? (i := 22) (by decide +kernel), List.mem_of_getElem? (i := 247) (by decide +kernel), List.mem_of_getElem? (i := 248) (by decide +kernel)⟩
theorem lw_p1 : lw_okq (⟨"YesterdayScale", "passed", "(I)I"⟩, 9) := ⟨⟨by decide +kernel, by decide +kernel⟩, List.mem_of_getElem? (i := 22) (by decide +kernel), List.mem_of_getElem? (i := 256) (by decide +kernel), List.mem_of_getElem? (i := 257) (by decide +kernel)⟩
theorem lw_p2 : lw_okq (⟨"YesterdayScale$Tape", "advance", "()V"⟩, 8) := ⟨⟨by decide +kernel, by decide +kernel⟩, List.mem_of_getElem? (i := 32) (by decide +kernel), List.mem_of_getElem? (i := 308) (by decide +kernel), List.mem_of_getElem? (i := 309) (by decide +kernel)⟩
theorem lw_p3 : lw_okq (⟨"YesterdayScale$Tape", "readLaw", "(LYesterdayScale$Port;)Z"⟩, 8) := ⟨⟨by decide +kernel, by decide +kernel⟩, List.mem_of_getElem? (i := 32) (by decide +kernel), List.mem_of_getElem? (i := 321) (by decide +kernel), List.mem_of_getElem? (i := 322) (by decide +kernel)⟩
theorem lw_p4 : lw_okq (⟨"YesterdayScale$Tape", "takeWord", "(Ljava/lang/String;)Z"⟩, 8) := ⟨⟨by decide +kernel, by decide +kernel⟩, List.mem_of_getElem? (i := 32) (by decide +kernel), List.mem_of_getElem? (i := 326) (by decide +kernel), List.mem_of_getElem? (i := 327) (by decide +kernel)⟩
theorem lw_p5 : lw_okq (⟨"YesterdayScale$Tape", "isWord", "(Ljava/lang/String;)Z"⟩, 8) := ⟨⟨by decide +kernel, by decide +kernel⟩, List.mem_of_getElem? (i := 32) (by decide +kernel), List.mem_of_getElem? (i := 330) (by decide +kernel), List.mem_of_getElem? (i := 331) (by decide +kernel)⟩
theorem lw_p6 : lw_okq (⟨"YesterdayScale$Tape", "fail", "(I)Z"⟩, 8) := ⟨⟨by decide +kernel, by decide +kernel⟩, List.mem_of_getElem? (i := 32) (by decide +kernel), List.mem_of_getElem? (i := 382) (by decide +kernel), List.mem_of_getElem? (i := 383) (by decide +kernel)⟩
theorem lw_p7 : lw_okq (⟨"YesterdayScale$Tape", "takeNumber", "(II)Z"⟩, 8) := ⟨⟨by decide +kernel, by decide +kernel⟩, List.mem_of_getElem? (i := 32) (by decide +kernel), List.mem_of_getElem? (i := 386) (by decide +kernel), List.mem_of_getElem? (i := 387) (by decide +kernel)⟩
theorem lw_p8 : lw_okq (⟨"YesterdayScale$Tape", "numberRead", "()I"⟩, 8) := ⟨⟨by decide +kernel, by decide +kernel⟩, List.mem_of_getElem? (i := 32) (by decide +kernel), List.mem_of_getElem? (i := 390) (by decide +kernel), List.mem_of_getElem? (i := 391) (by decide +kernel)⟩
theorem lw_p9 : lw_okq (⟨"YesterdayScale$Tape", "takeSemicolon", "()Z"⟩, 8) := ⟨⟨by decide +kernel, by decide +kernel⟩, List.mem_of_getElem? (i := 32) (by decide +kernel), List.mem_of_getElem? (i := 394) (by decide +kernel), List.mem_of_getElem? (i := 395) (by decide +kernel)⟩
theorem lw_p10 : lw_okq (⟨"YesterdayScale$Tape", "readThings", "(LYesterdayScale$Port;)Z"⟩, 8) := ⟨⟨by decide +kernel, by decide +kernel⟩, List.mem_of_getElem? (i := 32) (by decide +kernel), List.mem_of_getElem? (i := 398) (by decide +kernel), List.mem_of_getElem? (i := 399) (by decide +kernel)⟩
theorem lw_p11 : lw_okq (⟨"YesterdayScale$Tape", "readThing", "(LYesterdayScale$Port;)Z"⟩, 8) := ⟨⟨by decide +kernel, by decide +kernel⟩, List.mem_of_getElem? (i := 32) (by decide +kernel), List.mem_of_getElem? (i := 403) (by decide +kernel), List.mem_of_getElem? (i := 404) (by decide +kernel)⟩
theorem lw_p12 : lw_okq (⟨"YesterdayScale$Tape", "sortNamed", "()I"⟩, 8) := ⟨⟨by decide +kernel, by decide +kernel⟩, List.mem_of_getElem? (i := 32) (by decide +kernel), List.mem_of_getElem? (i := 407) (by decide +kernel), List.mem_of_getElem? (i := 408) (by decide +kernel)⟩
theorem lw_p13 : lw_okq (⟨"YesterdayScale$Tape", "readDays", "(LYesterdayScale$Port;)Z"⟩, 8) := ⟨⟨by decide +kernel, by decide +kernel⟩, List.mem_of_getElem? (i := 32) (by decide +kernel), List.mem_of_getElem? (i := 479) (by decide +kernel), List.mem_of_getElem? (i := 480) (by decide +kernel)⟩
theorem lw_p14 : lw_okq (⟨"YesterdayScale$Tape", "readEnd", "()Z"⟩, 8) := ⟨⟨by decide +kernel, by decide +kernel⟩, List.mem_of_getElem? (i := 32) (by decide +kernel), List.mem_of_getElem? (i := 492) (by decide +kernel), List.mem_of_getElem? (i := 493) (by decide +kernel)⟩
theorem lw_p15 : lw_okq (⟨"YesterdayScale$Port", "shownBy", "(IIII)I"⟩, 9) := ⟨⟨by decide +kernel, by decide +kernel⟩, List.mem_of_getElem? (i := 67) (by decide +kernel), List.mem_of_getElem? (i := 525) (by decide +kernel), List.mem_of_getElem? (i := 526) (by decide +kernel)⟩
def lw_privs_1 : List (MethodName × Nat) := [(⟨"YesterdayScale", "found", "(I)I"⟩, 9), (⟨"YesterdayScale", "passed", "(I)I"⟩, 9), (⟨"YesterdayScale$Tape", "advance", "()V"⟩, 8), (⟨"YesterdayScale$Tape", "readLaw", "(LYesterdayScale$Port;)Z"⟩, 8), (⟨"YesterdayScale$Tape", "takeWord", "(Ljava/lang/String;)Z"⟩, 8), (⟨"YesterdayScale$Tape", "isWord", "(Ljava/lang/String;)Z"⟩, 8), (⟨"YesterdayScale$Tape", "fail", "(I)Z"⟩, 8), (⟨"YesterdayScale$Tape", "takeNumber", "(II)Z"⟩, 8), (⟨"YesterdayScale$Tape", "numberRead", "()I"⟩, 8), (⟨"YesterdayScale$Tape", "takeSemicolon", "()Z"⟩, 8), (⟨"YesterdayScale$Tape", "readThings", "(LYesterdayScale$Port;)Z"⟩, 8), (⟨"YesterdayScale$Tape", "readThing", "(LYesterdayScale$Port;)Z"⟩, 8), (⟨"YesterdayScale$Tape", "sortNamed", "()I"⟩, 8), (⟨"YesterdayScale$Tape", "readDays", "(LYesterdayScale$Port;)Z"⟩, 8), (⟨"YesterdayScale$Tape", "readEnd", "()Z"⟩, 8), (⟨"YesterdayScale$Port", "shownBy", "(IIII)I"⟩, 9)]
theorem lw_r1 : ∀ q ∈ lw_privs_1, lw_okq q := List.forall_mem_cons.mpr ⟨lw_p0, List.forall_mem_cons.mpr ⟨lw_p1, List.forall_mem_cons.mpr ⟨lw_p2, List.forall_mem_cons.mpr ⟨lw_p3, List.forall_mem_cons.mpr ⟨lw_p4, List.forall_mem_cons.mpr ⟨lw_p5, List.forall_mem_cons.mpr ⟨lw_p6, List.forall_mem_cons.mpr ⟨lw_p7, List.forall_mem_cons.mpr ⟨lw_p8, List.forall_mem_cons.mpr ⟨lw_p9, List.forall_mem_cons.mpr ⟨lw_p10, List.forall_mem_cons.mpr ⟨lw_p11, List.forall_mem_cons.mpr ⟨lw_p12, List.forall_mem_cons.mpr ⟨lw_p13, List.forall_mem_cons.mpr ⟨lw_p14, List.forall_mem_cons.mpr ⟨lw_p15, fun _ h => absurd h List.not_mem_nil⟩⟩⟩⟩⟩⟩⟩⟩⟩⟩⟩⟩⟩⟩⟩⟩
theorem lw_p16 : lw_okq (⟨"YesterdayScale", "refusalToTell", "(IZ)I"⟩, 9) := ⟨⟨by decide +kernel, by decide +kernel⟩, List.mem_of_getElem? (i := 22) (by decide +kernel), List.mem_of_getElem? (i := 597) (by decide +kernel), List.mem_of_getElem? (i := 598) (by decide +kernel)⟩
theorem lw_p17 : lw_okq (⟨"YesterdayScale$Worlds", "take", "(LYesterdayScale$Port;)V"⟩, 13) := ⟨⟨by decide +kernel, by decide +kernel⟩, List.mem_of_getElem? (i := 123) (by decide +kernel), List.mem_of_getElem? (i := 605) (by decide +kernel), List.mem_of_getElem? (i := 606) (by decide +kernel)⟩
theorem lw_p18 : lw_okq (⟨"YesterdayScale$Worlds", "takeDay", "(LYesterdayScale$Port;I)V"⟩, 13) := ⟨⟨by decide +kernel, by decide +kernel⟩, List.mem_of_getElem? (i := 123) (by decide +kernel), List.mem_of_getElem? (i := 609) (by decide +kernel), List.mem_of_getElem? (i := 610) (by decide +kernel)⟩
theorem lw_p19 : lw_okq (⟨"YesterdayScale$Worlds", "isFitting", "(I)Z"⟩, 13) := ⟨⟨by decide +kernel, by decide +kernel⟩, List.mem_of_getElem? (i := 123) (by decide +kernel), List.mem_of_getElem? (i := 628) (by decide +kernel), List.mem_of_getElem? (i := 629) (by decide +kernel)⟩
theorem lw_p20 : lw_okq (⟨"YesterdayScale$Worlds", "shownIn", "(II)I"⟩, 13) := ⟨⟨by decide +kernel, by decide +kernel⟩, List.mem_of_getElem? (i := 123) (by decide +kernel), List.mem_of_getElem? (i := 632) (by decide +kernel), List.mem_of_getElem? (i := 633) (by decide +kernel)⟩
theorem lw_p21 : lw_okq (⟨"YesterdayScale$Worlds", "falseIn", "(II)I"⟩, 13) := ⟨⟨by decide +kernel, by decide +kernel⟩, List.mem_of_getElem? (i := 123) (by decide +kernel), List.mem_of_getElem? (i := 669) (by decide +kernel), List.mem_of_getElem? (i := 670) (by decide +kernel)⟩
theorem lw_p22 : lw_okq (⟨"YesterdayScale$Worlds", "gatherTrue", "(LYesterdayScale$Port;)I"⟩, 13) := ⟨⟨by decide +kernel, by decide +kernel⟩, List.mem_of_getElem? (i := 123) (by decide +kernel), List.mem_of_getElem? (i := 688) (by decide +kernel), List.mem_of_getElem? (i := 689) (by decide +kernel)⟩
theorem lw_p23 : lw_okq (⟨"YesterdayScale$Worlds", "findOneDay", "(LYesterdayScale$Port;II)Z"⟩, 13) := ⟨⟨by decide +kernel, by decide +kernel⟩, List.mem_of_getElem? (i := 123) (by decide +kernel), List.mem_of_getElem? (i := 696) (by decide +kernel), List.mem_of_getElem? (i := 697) (by decide +kernel)⟩
theorem lw_p24 : lw_okq (⟨"YesterdayScale$Worlds", "tryDay", "(LYesterdayScale$Port;II)V"⟩, 13) := ⟨⟨by decide +kernel, by decide +kernel⟩, List.mem_of_getElem? (i := 123) (by decide +kernel), List.mem_of_getElem? (i := 701) (by decide +kernel), List.mem_of_getElem? (i := 702) (by decide +kernel)⟩
theorem lw_p25 : lw_okq (⟨"YesterdayScale$Worlds", "isAlone", "(III)Z"⟩, 13) := ⟨⟨by decide +kernel, by decide +kernel⟩, List.mem_of_getElem? (i := 123) (by decide +kernel), List.mem_of_getElem? (i := 705) (by decide +kernel), List.mem_of_getElem? (i := 706) (by decide +kernel)⟩
theorem lw_p26 : lw_okq (⟨"YesterdayScale$Worlds", "findTwoDays", "(LYesterdayScale$Port;II)V"⟩, 13) := ⟨⟨by decide +kernel, by decide +kernel⟩, List.mem_of_getElem? (i := 123) (by decide +kernel), List.mem_of_getElem? (i := 709) (by decide +kernel), List.mem_of_getElem? (i := 710) (by decide +kernel)⟩
theorem lw_p27 : lw_okq (⟨"YesterdayScale$Worlds", "bringForward", "(II)I"⟩, 13) := ⟨⟨by decide +kernel, by decide +kernel⟩, List.mem_of_getElem? (i := 123) (by decide +kernel), List.mem_of_getElem? (i := 713) (by decide +kernel), List.mem_of_getElem? (i := 714) (by decide +kernel)⟩
theorem lw_p28 : lw_okq (⟨"YesterdayScale$Port", "tellsBy", "(II[I)Z"⟩, 9) := ⟨⟨by decide +kernel, by decide +kernel⟩, List.mem_of_getElem? (i := 67) (by decide +kernel), List.mem_of_getElem? (i := 729) (by decide +kernel), List.mem_of_getElem? (i := 730) (by decide +kernel)⟩
theorem lw_p29 : lw_okq (⟨"YesterdayScale", "howManyRows", "()I"⟩, 9) := ⟨⟨by decide +kernel, by decide +kernel⟩, List.mem_of_getElem? (i := 22) (by decide +kernel), List.mem_of_getElem? (i := 860) (by decide +kernel), List.mem_of_getElem? (i := 861) (by decide +kernel)⟩
theorem lw_p30 : lw_okq (⟨"YesterdayScaleModel", "finding", "(I)I"⟩, 31) := ⟨⟨by decide +kernel, by decide +kernel⟩, List.mem_of_getElem? (i := 868) (by decide +kernel), List.mem_of_getElem? (i := 982) (by decide +kernel), List.mem_of_getElem? (i := 983) (by decide +kernel)⟩
theorem lw_p31 : lw_okq (⟨"YesterdayScaleModel", "begin", "()V"⟩, 31) := ⟨⟨by decide +kernel, by decide +kernel⟩, List.mem_of_getElem? (i := 868) (by decide +kernel), List.mem_of_getElem? (i := 1010) (by decide +kernel), List.mem_of_getElem? (i := 1011) (by decide +kernel)⟩
def lw_privs_2 : List (MethodName × Nat) := [(⟨"YesterdayScale", "refusalToTell", "(IZ)I"⟩, 9), (⟨"YesterdayScale$Worlds", "take", "(LYesterdayScale$Port;)V"⟩, 13), (⟨"YesterdayScale$Worlds", "takeDay", "(LYesterdayScale$Port;I)V"⟩, 13), (⟨"YesterdayScale$Worlds", "isFitting", "(I)Z"⟩, 13), (⟨"YesterdayScale$Worlds", "shownIn", "(II)I"⟩, 13), (⟨"YesterdayScale$Worlds", "falseIn", "(II)I"⟩, 13), (⟨"YesterdayScale$Worlds", "gatherTrue", "(LYesterdayScale$Port;)I"⟩, 13), (⟨"YesterdayScale$Worlds", "findOneDay", "(LYesterdayScale$Port;II)Z"⟩, 13), (⟨"YesterdayScale$Worlds", "tryDay", "(LYesterdayScale$Port;II)V"⟩, 13), (⟨"YesterdayScale$Worlds", "isAlone", "(III)Z"⟩, 13), (⟨"YesterdayScale$Worlds", "findTwoDays", "(LYesterdayScale$Port;II)V"⟩, 13), (⟨"YesterdayScale$Worlds", "bringForward", "(II)I"⟩, 13), (⟨"YesterdayScale$Port", "tellsBy", "(II[I)Z"⟩, 9), (⟨"YesterdayScale", "howManyRows", "()I"⟩, 9), (⟨"YesterdayScaleModel", "finding", "(I)I"⟩, 31), (⟨"YesterdayScaleModel", "begin", "()V"⟩, 31)]
theorem lw_r2 : ∀ q ∈ lw_privs_2, lw_okq q := List.forall_mem_cons.mpr ⟨lw_p16, List.forall_mem_cons.mpr ⟨lw_p17, List.forall_mem_cons.mpr ⟨lw_p18, List.forall_mem_cons.mpr ⟨lw_p19, List.forall_mem_cons.mpr ⟨lw_p20, List.forall_mem_cons.mpr ⟨lw_p21, List.forall_mem_cons.mpr ⟨lw_p22, List.forall_mem_cons.mpr ⟨lw_p23, List.forall_mem_cons.mpr ⟨lw_p24, List.forall_mem_cons.mpr ⟨lw_p25, List.forall_mem_cons.mpr ⟨lw_p26, List.forall_mem_cons.mpr ⟨lw_p27, List.forall_mem_cons.mpr ⟨lw_p28, List.forall_mem_cons.mpr ⟨lw_p29, List.forall_mem_cons.mpr ⟨lw_p30, List.forall_mem_cons.mpr ⟨lw_p31, fun _ h => absurd h List.not_mem_nil⟩⟩⟩⟩⟩⟩⟩⟩⟩⟩⟩⟩⟩⟩⟩⟩
theorem lw_p32 : lw_okq (⟨"YesterdayScaleModel", "nextToken", "()V"⟩, 31) := ⟨⟨by decide +kernel, by decide +kernel⟩, List.mem_of_getElem? (i := 868) (by decide +kernel), List.mem_of_getElem? (i := 1014) (by decide +kernel), List.mem_of_getElem? (i := 1015) (by decide +kernel)⟩
theorem lw_p33 : lw_okq (⟨"YesterdayScaleModel", "byteAt", "(I)I"⟩, 31) := ⟨⟨by decide +kernel, by decide +kernel⟩, List.mem_of_getElem? (i := 868) (by decide +kernel), List.mem_of_getElem? (i := 1018) (by decide +kernel), List.mem_of_getElem? (i := 1019) (by decide +kernel)⟩
theorem lw_p34 : lw_okq (⟨"YesterdayScaleModel", "name", "()J"⟩, 31) := ⟨⟨by decide +kernel, by decide +kernel⟩, List.mem_of_getElem? (i := 868) (by decide +kernel), List.mem_of_getElem? (i := 1029) (by decide +kernel), List.mem_of_getElem? (i := 1030) (by decide +kernel)⟩
theorem lw_p35 : lw_okq (⟨"YesterdayScaleModel", "must", "(Z)V"⟩, 31) := ⟨⟨by decide +kernel, by decide +kernel⟩, List.mem_of_getElem? (i := 868) (by decide +kernel), List.mem_of_getElem? (i := 1034) (by decide +kernel), List.mem_of_getElem? (i := 1035) (by decide +kernel)⟩
theorem lw_p36 : lw_okq (⟨"YesterdayScaleModel", "bad", "(I)V"⟩, 31) := ⟨⟨by decide +kernel, by decide +kernel⟩, List.mem_of_getElem? (i := 868) (by decide +kernel), List.mem_of_getElem? (i := 1038) (by decide +kernel), List.mem_of_getElem? (i := 1039) (by decide +kernel)⟩
theorem lw_p37 : lw_okq (⟨"YesterdayScaleModel", "number", "(II)I"⟩, 31) := ⟨⟨by decide +kernel, by decide +kernel⟩, List.mem_of_getElem? (i := 868) (by decide +kernel), List.mem_of_getElem? (i := 1042) (by decide +kernel), List.mem_of_getElem? (i := 1043) (by decide +kernel)⟩
theorem lw_p38 : lw_okq (⟨"YesterdayScaleModel", "figures", "()I"⟩, 31) := ⟨⟨by decide +kernel, by decide +kernel⟩, List.mem_of_getElem? (i := 868) (by decide +kernel), List.mem_of_getElem? (i := 1046) (by decide +kernel), List.mem_of_getElem? (i := 1047) (by decide +kernel)⟩
theorem lw_p39 : lw_okq (⟨"YesterdayScaleModel", "mustEnd", "()V"⟩, 31) := ⟨⟨by decide +kernel, by decide +kernel⟩, List.mem_of_getElem? (i := 868) (by decide +kernel), List.mem_of_getElem? (i := 1050) (by decide +kernel), List.mem_of_getElem? (i := 1051) (by decide +kernel)⟩
theorem lw_p40 : lw_okq (⟨"YesterdayScaleModel", "readThing", "()V"⟩, 31) := ⟨⟨by decide +kernel, by decide +kernel⟩, List.mem_of_getElem? (i := 868) (by decide +kernel), List.mem_of_getElem? (i := 1055) (by decide +kernel), List.mem_of_getElem? (i := 1056) (by decide +kernel)⟩
theorem lw_p41 : lw_okq (⟨"YesterdayScaleModel", "begins", "(II)V"⟩, 31) := ⟨⟨by decide +kernel, by decide +kernel⟩, List.mem_of_getElem? (i := 868) (by decide +kernel), List.mem_of_getElem? (i := 1059) (by decide +kernel), List.mem_of_getElem? (i := 1060) (by decide +kernel)⟩
theorem lw_p42 : lw_okq (⟨"YesterdayScaleModel", "readDay", "()V"⟩, 31) := ⟨⟨by decide +kernel, by decide +kernel⟩, List.mem_of_getElem? (i := 868) (by decide +kernel), List.mem_of_getElem? (i := 1072) (by decide +kernel), List.mem_of_getElem? (i := 1073) (by decide +kernel)⟩
theorem lw_p43 : lw_okq (⟨"YesterdayScaleModel", "isThere", "()Z"⟩, 31) := ⟨⟨by decide +kernel, by decide +kernel⟩, List.mem_of_getElem? (i := 868) (by decide +kernel), List.mem_of_getElem? (i := 1085) (by decide +kernel), List.mem_of_getElem? (i := 1086) (by decide +kernel)⟩
theorem lw_p44 : lw_okq (⟨"YesterdayScaleModel", "isSet", "(I)Z"⟩, 31) := ⟨⟨by decide +kernel, by decide +kernel⟩, List.mem_of_getElem? (i := 868) (by decide +kernel), List.mem_of_getElem? (i := 1090) (by decide +kernel), List.mem_of_getElem? (i := 1091) (by decide +kernel)⟩
theorem lw_p45 : lw_okq (⟨"YesterdayScaleModel", "layTruly", "()V"⟩, 31) := ⟨⟨by decide +kernel, by decide +kernel⟩, List.mem_of_getElem? (i := 868) (by decide +kernel), List.mem_of_getElem? (i := 1094) (by decide +kernel), List.mem_of_getElem? (i := 1095) (by decide +kernel)⟩
theorem lw_p46 : lw_okq (⟨"YesterdayScaleModel", "shows", "(I)I"⟩, 31) := ⟨⟨by decide +kernel, by decide +kernel⟩, List.mem_of_getElem? (i := 868) (by decide +kernel), List.mem_of_getElem? (i := 1098) (by decide +kernel), List.mem_of_getElem? (i := 1099) (by decide +kernel)⟩
theorem lw_p47 : lw_okq (⟨"YesterdayScaleModel", "loadOn", "(I)I"⟩, 31) := ⟨⟨by decide +kernel, by decide +kernel⟩, List.mem_of_getElem? (i := 868) (by decide +kernel), List.mem_of_getElem? (i := 1102) (by decide +kernel), List.mem_of_getElem? (i := 1103) (by decide +kernel)⟩
def lw_privs_3 : List (MethodName × Nat) := [(⟨"YesterdayScaleModel", "nextToken", "()V"⟩, 31), (⟨"YesterdayScaleModel", "byteAt", "(I)I"⟩, 31), (⟨"YesterdayScaleModel", "name", "()J"⟩, 31), (⟨"YesterdayScaleModel", "must", "(Z)V"⟩, 31), (⟨"YesterdayScaleModel", "bad", "(I)V"⟩, 31), (⟨"YesterdayScaleModel", "number", "(II)I"⟩, 31), (⟨"YesterdayScaleModel", "figures", "()I"⟩, 31), (⟨"YesterdayScaleModel", "mustEnd", "()V"⟩, 31), (⟨"YesterdayScaleModel", "readThing", "()V"⟩, 31), (⟨"YesterdayScaleModel", "begins", "(II)V"⟩, 31), (⟨"YesterdayScaleModel", "readDay", "()V"⟩, 31), (⟨"YesterdayScaleModel", "isThere", "()Z"⟩, 31), (⟨"YesterdayScaleModel", "isSet", "(I)Z"⟩, 31), (⟨"YesterdayScaleModel", "layTruly", "()V"⟩, 31), (⟨"YesterdayScaleModel", "shows", "(I)I"⟩, 31), (⟨"YesterdayScaleModel", "loadOn", "(I)I"⟩, 31)]
theorem lw_r3 : ∀ q ∈ lw_privs_3, lw_okq q := List.forall_mem_cons.mpr ⟨lw_p32, List.forall_mem_cons.mpr ⟨lw_p33, List.forall_mem_cons.mpr ⟨lw_p34, List.forall_mem_cons.mpr ⟨lw_p35, List.forall_mem_cons.mpr ⟨lw_p36, List.forall_mem_cons.mpr ⟨lw_p37, List.forall_mem_cons.mpr ⟨lw_p38, List.forall_mem_cons.mpr ⟨lw_p39, List.forall_mem_cons.mpr ⟨lw_p40, List.forall_mem_cons.mpr ⟨lw_p41, List.forall_mem_cons.mpr ⟨lw_p42, List.forall_mem_cons.mpr ⟨lw_p43, List.forall_mem_cons.mpr ⟨lw_p44, List.forall_mem_cons.mpr ⟨lw_p45, List.forall_mem_cons.mpr ⟨lw_p46, List.forall_mem_cons.mpr ⟨lw_p47, fun _ h => absurd h List.not_mem_nil⟩⟩⟩⟩⟩⟩⟩⟩⟩⟩⟩⟩⟩⟩⟩⟩
theorem lw_p48 : lw_okq (⟨"YesterdayScaleModel", "heavyOn", "(II)I"⟩, 31) := ⟨⟨by decide +kernel, by decide +kernel⟩, List.mem_of_getElem? (i := 868) (by decide +kernel), List.mem_of_getElem? (i := 1106) (by decide +kernel), List.mem_of_getElem? (i := 1107) (by decide +kernel)⟩
theorem lw_p49 : lw_okq (⟨"YesterdayScaleModel", "kindOf", "(I)I"⟩, 31) := ⟨⟨by decide +kernel, by decide +kernel⟩, List.mem_of_getElem? (i := 868) (by decide +kernel), List.mem_of_getElem? (i := 1110) (by decide +kernel), List.mem_of_getElem? (i := 1111) (by decide +kernel)⟩
theorem lw_p50 : lw_okq (⟨"YesterdayScaleModel", "isFresh", "(I)Z"⟩, 31) := ⟨⟨by decide +kernel, by decide +kernel⟩, List.mem_of_getElem? (i := 868) (by decide +kernel), List.mem_of_getElem? (i := 1114) (by decide +kernel), List.mem_of_getElem? (i := 1115) (by decide +kernel)⟩
theorem lw_p51 : lw_okq (⟨"YesterdayScaleModel", "isDay", "(I)Z"⟩, 31) := ⟨⟨by decide +kernel, by decide +kernel⟩, List.mem_of_getElem? (i := 868) (by decide +kernel), List.mem_of_getElem? (i := 1126) (by decide +kernel), List.mem_of_getElem? (i := 1127) (by decide +kernel)⟩
theorem lw_p52 : lw_okq (⟨"YesterdayScaleModel", "isThing", "(I)Z"⟩, 31) := ⟨⟨by decide +kernel, by decide +kernel⟩, List.mem_of_getElem? (i := 868) (by decide +kernel), List.mem_of_getElem? (i := 1135) (by decide +kernel), List.mem_of_getElem? (i := 1136) (by decide +kernel)⟩
theorem lw_p53 : lw_okq (⟨"YesterdayScaleModel", "barred", "(IZ)I"⟩, 31) := ⟨⟨by decide +kernel, by decide +kernel⟩, List.mem_of_getElem? (i := 868) (by decide +kernel), List.mem_of_getElem? (i := 1149) (by decide +kernel), List.mem_of_getElem? (i := 1150) (by decide +kernel)⟩
theorem lw_p54 : lw_okq (⟨"YesterdayScaleModel", "worlds", "()I"⟩, 31) := ⟨⟨by decide +kernel, by decide +kernel⟩, List.mem_of_getElem? (i := 868) (by decide +kernel), List.mem_of_getElem? (i := 1153) (by decide +kernel), List.mem_of_getElem? (i := 1154) (by decide +kernel)⟩
theorem lw_p55 : lw_okq (⟨"YesterdayScaleModel", "layWorld", "(I)V"⟩, 31) := ⟨⟨by decide +kernel, by decide +kernel⟩, List.mem_of_getElem? (i := 868) (by decide +kernel), List.mem_of_getElem? (i := 1157) (by decide +kernel), List.mem_of_getElem? (i := 1158) (by decide +kernel)⟩
theorem lw_p56 : lw_okq (⟨"YesterdayScaleModel", "wrongDays", "(I)I"⟩, 31) := ⟨⟨by decide +kernel, by decide +kernel⟩, List.mem_of_getElem? (i := 868) (by decide +kernel), List.mem_of_getElem? (i := 1161) (by decide +kernel), List.mem_of_getElem? (i := 1162) (by decide +kernel)⟩
theorem lw_p57 : lw_okq (⟨"YesterdayScaleModel", "laySoon", "()V"⟩, 31) := ⟨⟨by decide +kernel, by decide +kernel⟩, List.mem_of_getElem? (i := 868) (by decide +kernel), List.mem_of_getElem? (i := 1187) (by decide +kernel), List.mem_of_getElem? (i := 1188) (by decide +kernel)⟩
theorem lw_p58 : lw_okq (⟨"YesterdayScaleModel", "layLeft", "()V"⟩, 31) := ⟨⟨by decide +kernel, by decide +kernel⟩, List.mem_of_getElem? (i := 868) (by decide +kernel), List.mem_of_getElem? (i := 1191) (by decide +kernel), List.mem_of_getElem? (i := 1192) (by decide +kernel)⟩
theorem lw_p59 : lw_okq (⟨"YesterdayScaleModel", "layTrulyShown", "(I)V"⟩, 31) := ⟨⟨by decide +kernel, by decide +kernel⟩, List.mem_of_getElem? (i := 868) (by decide +kernel), List.mem_of_getElem? (i := 1195) (by decide +kernel), List.mem_of_getElem? (i := 1196) (by decide +kernel)⟩
theorem lw_p60 : lw_okq (⟨"YesterdayScaleModel", "isOne", "(I)Z"⟩, 31) := ⟨⟨by decide +kernel, by decide +kernel⟩, List.mem_of_getElem? (i := 868) (by decide +kernel), List.mem_of_getElem? (i := 1199) (by decide +kernel), List.mem_of_getElem? (i := 1200) (by decide +kernel)⟩
theorem lw_p61 : lw_okq (⟨"YesterdayScaleModel", "sizeOf", "(I)I"⟩, 31) := ⟨⟨by decide +kernel, by decide +kernel⟩, List.mem_of_getElem? (i := 868) (by decide +kernel), List.mem_of_getElem? (i := 1239) (by decide +kernel), List.mem_of_getElem? (i := 1240) (by decide +kernel)⟩
theorem lw_p62 : lw_okq (⟨"YesterdayScaleModel", "stoneSize", "(I)I"⟩, 31) := ⟨⟨by decide +kernel, by decide +kernel⟩, List.mem_of_getElem? (i := 868) (by decide +kernel), List.mem_of_getElem? (i := 1243) (by decide +kernel), List.mem_of_getElem? (i := 1244) (by decide +kernel)⟩
theorem lw_p63 : lw_okq (⟨"YesterdayScaleModel", "began", "(I)V"⟩, 31) := ⟨⟨by decide +kernel, by decide +kernel⟩, List.mem_of_getElem? (i := 868) (by decide +kernel), List.mem_of_getElem? (i := 1247) (by decide +kernel), List.mem_of_getElem? (i := 1248) (by decide +kernel)⟩
def lw_privs_4 : List (MethodName × Nat) := [(⟨"YesterdayScaleModel", "heavyOn", "(II)I"⟩, 31), (⟨"YesterdayScaleModel", "kindOf", "(I)I"⟩, 31), (⟨"YesterdayScaleModel", "isFresh", "(I)Z"⟩, 31), (⟨"YesterdayScaleModel", "isDay", "(I)Z"⟩, 31), (⟨"YesterdayScaleModel", "isThing", "(I)Z"⟩, 31), (⟨"YesterdayScaleModel", "barred", "(IZ)I"⟩, 31), (⟨"YesterdayScaleModel", "worlds", "()I"⟩, 31), (⟨"YesterdayScaleModel", "layWorld", "(I)V"⟩, 31), (⟨"YesterdayScaleModel", "wrongDays", "(I)I"⟩, 31), (⟨"YesterdayScaleModel", "laySoon", "()V"⟩, 31), (⟨"YesterdayScaleModel", "layLeft", "()V"⟩, 31), (⟨"YesterdayScaleModel", "layTrulyShown", "(I)V"⟩, 31), (⟨"YesterdayScaleModel", "isOne", "(I)Z"⟩, 31), (⟨"YesterdayScaleModel", "sizeOf", "(I)I"⟩, 31), (⟨"YesterdayScaleModel", "stoneSize", "(I)I"⟩, 31), (⟨"YesterdayScaleModel", "began", "(I)V"⟩, 31)]
theorem lw_r4 : ∀ q ∈ lw_privs_4, lw_okq q := List.forall_mem_cons.mpr ⟨lw_p48, List.forall_mem_cons.mpr ⟨lw_p49, List.forall_mem_cons.mpr ⟨lw_p50, List.forall_mem_cons.mpr ⟨lw_p51, List.forall_mem_cons.mpr ⟨lw_p52, List.forall_mem_cons.mpr ⟨lw_p53, List.forall_mem_cons.mpr ⟨lw_p54, List.forall_mem_cons.mpr ⟨lw_p55, List.forall_mem_cons.mpr ⟨lw_p56, List.forall_mem_cons.mpr ⟨lw_p57, List.forall_mem_cons.mpr ⟨lw_p58, List.forall_mem_cons.mpr ⟨lw_p59, List.forall_mem_cons.mpr ⟨lw_p60, List.forall_mem_cons.mpr ⟨lw_p61, List.forall_mem_cons.mpr ⟨lw_p62, List.forall_mem_cons.mpr ⟨lw_p63, fun _ h => absurd h List.not_mem_nil⟩⟩⟩⟩⟩⟩⟩⟩⟩⟩⟩⟩⟩⟩⟩⟩
theorem lw_p64 : lw_okq (⟨"YesterdayScaleModel", "plainSize", "(I)I"⟩, 31) := ⟨⟨by decide +kernel, by decide +kernel⟩, List.mem_of_getElem? (i := 868) (by decide +kernel), List.mem_of_getElem? (i := 1251) (by decide +kernel), List.mem_of_getElem? (i := 1252) (by decide +kernel)⟩
theorem lw_p65 : lw_okq (⟨"YesterdayScaleModel", "markOf", "(I)I"⟩, 31) := ⟨⟨by decide +kernel, by decide +kernel⟩, List.mem_of_getElem? (i := 868) (by decide +kernel), List.mem_of_getElem? (i := 1255) (by decide +kernel), List.mem_of_getElem? (i := 1256) (by decide +kernel)⟩
def lw_privs_5 : List (MethodName × Nat) := [(⟨"YesterdayScaleModel", "plainSize", "(I)I"⟩, 31), (⟨"YesterdayScaleModel", "markOf", "(I)I"⟩, 31)]
theorem lw_r5 : ∀ q ∈ lw_privs_5, lw_okq q := List.forall_mem_cons.mpr ⟨lw_p64, List.forall_mem_cons.mpr ⟨lw_p65, fun _ h => absurd h List.not_mem_nil⟩⟩
def lw_privs : List (MethodName × Nat) := lw_privs_1 ++ (lw_privs_2 ++ (lw_privs_3 ++ (lw_privs_4 ++ (lw_privs_5))))
def lw_tbl : List Cond := k2_sels lw_privs ++ tables_1
theorem lw_privs_ok : ∀ q ∈ lw_privs, lw_okq q := by
  show ∀ q ∈ lw_privs_1 ++ (lw_privs_2 ++ (lw_privs_3 ++ (lw_privs_4 ++ (lw_privs_5)))), lw_okq q
  exact List.forall_mem_append.mpr ⟨lw_r1, List.forall_mem_append.mpr ⟨lw_r2, List.forall_mem_append.mpr ⟨lw_r3, List.forall_mem_append.mpr ⟨lw_r4, lw_r5⟩⟩⟩⟩
end
section
/-! names, written by wip/whole/gen_names.py out of the printed ones -/
def RX0 : String := "YesterdayScale$Asking"
def TX0 : u_T := fun k => match k with
  | 0 => ("YesterdayScale$Asking", "traced", "I", false)
  | 1 => ("YesterdayScale$Asking", "days", "I", false)
  | _ => ("YesterdayScale$Asking", "numbers", "[I", true)
def tyX0 : Nat → FieldType := fun k => match k with
  | 0 => .int
  | 1 => .int
  | _ => .array .int
abbrev wsX00 : List Cond := u_ws RX0 TX0 3
theorem nmX0 : ∀ a, a < 3 → ∀ b, b < 3 → a ≠ b → (TX0 a).2.1 ≠ (TX0 b).2.1 := by decide +kernel
theorem tyX0_ok : ∀ k, k < 3 → parseFieldDescriptor (TX0 k).2.2.1 = some (tyX0 k) := by decide +kernel
abbrev cX0_init : ByteArray := prog_2_method_1_code
def yX0_init : MethodName := ⟨RX0, "<init>", "()V"⟩
abbrev cX0_begin : ByteArray := prog_2_method_2_code
def yX0_begin : MethodName := ⟨RX0, "begin", "(I)V"⟩
abbrev cX0_enter : ByteArray := prog_2_method_3_code
def yX0_enter : MethodName := ⟨RX0, "enter", "(I)V"⟩
def RX1 : String := "YesterdayScale$Fish"
def TX1 : u_T := fun k => match k with
  | 0 => ("YesterdayScale$Thing", "number", "I", true)
  | _ => ("YesterdayScale$Thing", "weight", "I", true)
def tyX1 : Nat → FieldType := fun k => match k with
  | 0 => .int
  | _ => .int
abbrev wsX10 : List Cond := u_ws RX1 TX1 2
theorem nmX1 : ∀ a, a < 2 → ∀ b, b < 2 → a ≠ b → (TX1 a).2.1 ≠ (TX1 b).2.1 := by decide +kernel
theorem tyX1_ok : ∀ k, k < 2 → parseFieldDescriptor (TX1 k).2.2.1 = some (tyX1 k) := by decide +kernel
abbrev cX1_init : ByteArray := prog_3_method_1_code
def yX1_init : MethodName := ⟨RX1, "<init>", "(II)V"⟩
abbrev cX1_kindNumber : ByteArray := prog_3_method_2_code
def yX1_kindNumber : MethodName := ⟨RX1, "kindNumber", "()I"⟩
abbrev cX1_heavyWith : ByteArray := prog_3_method_3_code
def yX1_heavyWith : MethodName := ⟨RX1, "heavyWith", "(II)I"⟩
abbrev cX1_markBy : ByteArray := prog_3_method_4_code
def yX1_markBy : MethodName := ⟨RX1, "markBy", "(LYesterdayScale$Asking;I)I"⟩
def RX2 : String := "YesterdayScale$Port"
def TX2 : u_T := fun k => match k with
  | 0 => ("YesterdayScale$Port", "there", "Z", false)
  | 1 => ("YesterdayScale$Port", "keeps", "I", false)
  | 2 => ("YesterdayScale$Port", "half", "I", false)
  | 3 => ("YesterdayScale$Port", "top", "I", false)
  | 4 => ("YesterdayScale$Port", "things", "I", false)
  | 5 => ("YesterdayScale$Port", "days", "I", false)
  | 6 => ("YesterdayScale$Port", "stones", "I", false)
  | 7 => ("YesterdayScale$Port", "laid", "[LYesterdayScale$Thing;", true)
  | _ => ("YesterdayScale$Port", "sets", "[I", true)
def tyX2 : Nat → FieldType := fun k => match k with
  | 0 => .boolean
  | 1 => .int
  | 2 => .int
  | 3 => .int
  | 4 => .int
  | 5 => .int
  | 6 => .int
  | 7 => .array (.object "YesterdayScale$Thing")
  | _ => .array .int
abbrev wsX20 : List Cond := u_ws RX2 TX2 9
theorem nmX2 : ∀ a, a < 9 → ∀ b, b < 9 → a ≠ b → (TX2 a).2.1 ≠ (TX2 b).2.1 := by decide +kernel
theorem tyX2_ok : ∀ k, k < 9 → parseFieldDescriptor (TX2 k).2.2.1 = some (tyX2 k) := by decide +kernel
abbrev cX2_init : ByteArray := prog_4_method_1_code
def yX2_init : MethodName := ⟨RX2, "<init>", "()V"⟩
abbrev cX2_clear : ByteArray := prog_4_method_2_code
def yX2_clear : MethodName := ⟨RX2, "clear", "()V"⟩
abbrev cX2_become : ByteArray := prog_4_method_3_code
def yX2_become : MethodName := ⟨RX2, "become", "(LYesterdayScale$Port;)V"⟩
abbrev cX2_addThing : ByteArray := prog_4_method_4_code
def yX2_addThing : MethodName := ⟨RX2, "addThing", "(II)V"⟩
abbrev cX2_made : ByteArray := prog_4_method_5_code
def yX2_made : MethodName := ⟨RX2, "made", "(III)LYesterdayScale$Thing;"⟩
abbrev cX2_addDay : ByteArray := prog_4_method_6_code
def yX2_addDay : MethodName := ⟨RX2, "addDay", "(I)V"⟩
abbrev cX2_allThings : ByteArray := prog_4_method_7_code
def yX2_allThings : MethodName := ⟨RX2, "allThings", "()I"⟩
abbrev cX2_canLay : ByteArray := prog_4_method_8_code
def yX2_canLay : MethodName := ⟨RX2, "canLay", "(I)Z"⟩
abbrev cX2_thingAt : ByteArray := prog_4_method_9_code
def yX2_thingAt : MethodName := ⟨RX2, "thingAt", "(I)LYesterdayScale$Thing;"⟩
abbrev cX2_hasDay : ByteArray := prog_4_method_10_code
def yX2_hasDay : MethodName := ⟨RX2, "hasDay", "(I)Z"⟩
abbrev cX2_liesOn : ByteArray := prog_4_method_11_code
def yX2_liesOn : MethodName := ⟨RX2, "liesOn", "(II)Z"⟩
abbrev cX2_isFresh : ByteArray := prog_4_method_12_code
def yX2_isFresh : MethodName := ⟨RX2, "isFresh", "(I)Z"⟩
abbrev cX2_loadOn : ByteArray := prog_4_method_13_code
def yX2_loadOn : MethodName := ⟨RX2, "loadOn", "(I)I"⟩
abbrev cX2_reachOf : ByteArray := prog_4_method_14_code
def yX2_reachOf : MethodName := ⟨RX2, "reachOf", "(II)I"⟩
abbrev cX2_shownOn : ByteArray := prog_4_method_15_code
def yX2_shownOn : MethodName := ⟨RX2, "shownOn", "(I)I"⟩
abbrev cX2_shownBy : ByteArray := prog_4_method_16_code
def yX2_shownBy : MethodName := ⟨RX2, "shownBy", "(IIII)I"⟩
abbrev cX2_changedBy : ByteArray := prog_4_method_17_code
def yX2_changedBy : MethodName := ⟨RX2, "changedBy", "(I)I"⟩
abbrev cX2_lawsTelling : ByteArray := prog_4_method_18_code
def yX2_lawsTelling : MethodName := ⟨RX2, "lawsTelling", "([I)I"⟩
abbrev cX2_tellsBy : ByteArray := prog_4_method_19_code
def yX2_tellsBy : MethodName := ⟨RX2, "tellsBy", "(II[I)Z"⟩
abbrev cX2_leftOver : ByteArray := prog_4_method_20_code
def yX2_leftOver : MethodName := ⟨RX2, "leftOver", "(II)I"⟩
def RX3 : String := "YesterdayScale$Row"
def TX3 : u_T := fun k => match k with
  | 0 => ("YesterdayScale$Row", "there", "Z", false)
  | 1 => ("YesterdayScale$Row", "lane", "I", false)
  | 2 => ("YesterdayScale$Row", "size", "I", false)
  | _ => ("YesterdayScale$Row", "items", "[I", true)
def tyX3 : Nat → FieldType := fun k => match k with
  | 0 => .boolean
  | 1 => .int
  | 2 => .int
  | _ => .array .int
abbrev wsX30 : List Cond := u_ws RX3 TX3 4
theorem nmX3 : ∀ a, a < 4 → ∀ b, b < 4 → a ≠ b → (TX3 a).2.1 ≠ (TX3 b).2.1 := by decide +kernel
theorem tyX3_ok : ∀ k, k < 4 → parseFieldDescriptor (TX3 k).2.2.1 = some (tyX3 k) := by decide +kernel
abbrev cX3_init : ByteArray := prog_5_method_1_code
def yX3_init : MethodName := ⟨RX3, "<init>", "()V"⟩
abbrev cX3_begin : ByteArray := prog_5_method_2_code
def yX3_begin : MethodName := ⟨RX3, "begin", "(II)V"⟩
abbrev cX3_cut : ByteArray := prog_5_method_3_code
def yX3_cut : MethodName := ⟨RX3, "cut", "(I)I"⟩
abbrev cX3_hasPlaces : ByteArray := prog_5_method_4_code
def yX3_hasPlaces : MethodName := ⟨RX3, "hasPlaces", "(II)Z"⟩
def RX4 : String := "YesterdayScale$Salt"
def TX4 : u_T := fun k => match k with
  | 0 => ("YesterdayScale$Thing", "number", "I", true)
  | _ => ("YesterdayScale$Thing", "weight", "I", true)
def tyX4 : Nat → FieldType := fun k => match k with
  | 0 => .int
  | _ => .int
abbrev wsX40 : List Cond := u_ws RX4 TX4 2
theorem nmX4 : ∀ a, a < 2 → ∀ b, b < 2 → a ≠ b → (TX4 a).2.1 ≠ (TX4 b).2.1 := by decide +kernel
theorem tyX4_ok : ∀ k, k < 2 → parseFieldDescriptor (TX4 k).2.2.1 = some (tyX4 k) := by decide +kernel
abbrev cX4_init : ByteArray := prog_6_method_1_code
def yX4_init : MethodName := ⟨RX4, "<init>", "(II)V"⟩
abbrev cX4_kindNumber : ByteArray := prog_6_method_2_code
def yX4_kindNumber : MethodName := ⟨RX4, "kindNumber", "()I"⟩
abbrev cX4_sizeBy : ByteArray := prog_6_method_3_code
def yX4_sizeBy : MethodName := ⟨RX4, "sizeBy", "(LYesterdayScale$Asking;I)I"⟩
abbrev cX4_markBy : ByteArray := prog_6_method_4_code
def yX4_markBy : MethodName := ⟨RX4, "markBy", "(LYesterdayScale$Asking;I)I"⟩
def RX5 : String := "YesterdayScale$Stone"
def TX5 : u_T := fun k => match k with
  | 0 => ("YesterdayScale$Thing", "number", "I", true)
  | _ => ("YesterdayScale$Thing", "weight", "I", true)
def tyX5 : Nat → FieldType := fun k => match k with
  | 0 => .int
  | _ => .int
abbrev wsX50 : List Cond := u_ws RX5 TX5 2
theorem nmX5 : ∀ a, a < 2 → ∀ b, b < 2 → a ≠ b → (TX5 a).2.1 ≠ (TX5 b).2.1 := by decide +kernel
theorem tyX5_ok : ∀ k, k < 2 → parseFieldDescriptor (TX5 k).2.2.1 = some (tyX5 k) := by decide +kernel
abbrev cX5_init : ByteArray := prog_7_method_1_code
def yX5_init : MethodName := ⟨RX5, "<init>", "(II)V"⟩
abbrev cX5_kindNumber : ByteArray := prog_7_method_2_code
def yX5_kindNumber : MethodName := ⟨RX5, "kindNumber", "()I"⟩
abbrev cX5_sizeBy : ByteArray := prog_7_method_3_code
def yX5_sizeBy : MethodName := ⟨RX5, "sizeBy", "(LYesterdayScale$Asking;I)I"⟩
abbrev cX5_markBy : ByteArray := prog_7_method_4_code
def yX5_markBy : MethodName := ⟨RX5, "markBy", "(LYesterdayScale$Asking;I)I"⟩
def RX6 : String := "YesterdayScale$Tape"
def TX6 : u_T := fun k => match k with
  | 0 => ("YesterdayScale$Tape", "bytes", "[B", true)
  | 1 => ("YesterdayScale$Tape", "length", "I", false)
  | 2 => ("YesterdayScale$Tape", "faultNumber", "I", false)
  | 3 => ("YesterdayScale$Tape", "faultPlace", "I", false)
  | 4 => ("YesterdayScale$Tape", "at", "I", false)
  | 5 => ("YesterdayScale$Tape", "start", "I", false)
  | 6 => ("YesterdayScale$Tape", "token", "I", false)
  | _ => ("YesterdayScale$Tape", "taken", "I", false)
def tyX6 : Nat → FieldType := fun k => match k with
  | 0 => .array .byte
  | 1 => .int
  | 2 => .int
  | 3 => .int
  | 4 => .int
  | 5 => .int
  | 6 => .int
  | _ => .int
abbrev wsX60 : List Cond := u_ws RX6 TX6 8
theorem nmX6 : ∀ a, a < 8 → ∀ b, b < 8 → a ≠ b → (TX6 a).2.1 ≠ (TX6 b).2.1 := by decide +kernel
theorem tyX6_ok : ∀ k, k < 8 → parseFieldDescriptor (TX6 k).2.2.1 = some (tyX6 k) := by decide +kernel
abbrev cX6_init : ByteArray := prog_8_method_1_code
def yX6_init : MethodName := ⟨RX6, "<init>", "()V"⟩
abbrev cX6_hasRoom : ByteArray := prog_8_method_2_code
def yX6_hasRoom : MethodName := ⟨RX6, "hasRoom", "(I)Z"⟩
abbrev cX6_append : ByteArray := prog_8_method_3_code
def yX6_append : MethodName := ⟨RX6, "append", "(JI)I"⟩
abbrev cX6_readInto : ByteArray := prog_8_method_4_code
def yX6_readInto : MethodName := ⟨RX6, "readInto", "(LYesterdayScale$Port;)Z"⟩
abbrev cX6_readLaw : ByteArray := prog_8_method_5_code
def yX6_readLaw : MethodName := ⟨RX6, "readLaw", "(LYesterdayScale$Port;)Z"⟩
abbrev cX6_readThings : ByteArray := prog_8_method_6_code
def yX6_readThings : MethodName := ⟨RX6, "readThings", "(LYesterdayScale$Port;)Z"⟩
abbrev cX6_readThing : ByteArray := prog_8_method_7_code
def yX6_readThing : MethodName := ⟨RX6, "readThing", "(LYesterdayScale$Port;)Z"⟩
abbrev cX6_readDays : ByteArray := prog_8_method_8_code
def yX6_readDays : MethodName := ⟨RX6, "readDays", "(LYesterdayScale$Port;)Z"⟩
abbrev cX6_readEnd : ByteArray := prog_8_method_9_code
def yX6_readEnd : MethodName := ⟨RX6, "readEnd", "()Z"⟩
abbrev cX6_sortNamed : ByteArray := prog_8_method_10_code
def yX6_sortNamed : MethodName := ⟨RX6, "sortNamed", "()I"⟩
abbrev cX6_takeWord : ByteArray := prog_8_method_11_code
def yX6_takeWord : MethodName := ⟨RX6, "takeWord", "(Ljava/lang/String;)Z"⟩
abbrev cX6_takeNumber : ByteArray := prog_8_method_12_code
def yX6_takeNumber : MethodName := ⟨RX6, "takeNumber", "(II)Z"⟩
abbrev cX6_takeSemicolon : ByteArray := prog_8_method_13_code
def yX6_takeSemicolon : MethodName := ⟨RX6, "takeSemicolon", "()Z"⟩
abbrev cX6_fail : ByteArray := prog_8_method_14_code
def yX6_fail : MethodName := ⟨RX6, "fail", "(I)Z"⟩
abbrev cX6_isWord : ByteArray := prog_8_method_15_code
def yX6_isWord : MethodName := ⟨RX6, "isWord", "(Ljava/lang/String;)Z"⟩
abbrev cX6_numberRead : ByteArray := prog_8_method_16_code
def yX6_numberRead : MethodName := ⟨RX6, "numberRead", "()I"⟩
abbrev cX6_advance : ByteArray := prog_8_method_17_code
def yX6_advance : MethodName := ⟨RX6, "advance", "()V"⟩
abbrev cX6_isBetween : ByteArray := prog_8_method_18_code
def yX6_isBetween : MethodName := ⟨RX6, "isBetween", "(I)Z"⟩
abbrev cX6_isLetter : ByteArray := prog_8_method_19_code
def yX6_isLetter : MethodName := ⟨RX6, "isLetter", "(I)Z"⟩
abbrev cX6_isFigure : ByteArray := prog_8_method_20_code
def yX6_isFigure : MethodName := ⟨RX6, "isFigure", "(I)Z"⟩
def RX7 : String := "YesterdayScale$Thing"
def TX7 : u_T := fun k => match k with
  | _ => ("", "", "", false)
def tyX7 : Nat → FieldType := fun k => match k with
  | _ => .int
abbrev wsX70 : List Cond := u_ws RX7 TX7 0
theorem nmX7 : ∀ a, a < 0 → ∀ b, b < 0 → a ≠ b → (TX7 a).2.1 ≠ (TX7 b).2.1 := by decide +kernel
theorem tyX7_ok : ∀ k, k < 0 → parseFieldDescriptor (TX7 k).2.2.1 = some (tyX7 k) := by decide +kernel
abbrev cX7_init : ByteArray := prog_9_method_1_code
def yX7_init : MethodName := ⟨RX7, "<init>", "(II)V"⟩
abbrev cX7_heavyWith : ByteArray := prog_9_method_3_code
def yX7_heavyWith : MethodName := ⟨RX7, "heavyWith", "(II)I"⟩
abbrev cX7_sizeBy : ByteArray := prog_9_method_4_code
def yX7_sizeBy : MethodName := ⟨RX7, "sizeBy", "(LYesterdayScale$Asking;I)I"⟩
abbrev cX7_markBy : ByteArray := prog_9_method_5_code
def yX7_markBy : MethodName := ⟨RX7, "markBy", "(LYesterdayScale$Asking;I)I"⟩
def RX8 : String := "YesterdayScale$Whale"
def TX8 : u_T := fun k => match k with
  | 0 => ("YesterdayScale$Thing", "number", "I", true)
  | _ => ("YesterdayScale$Thing", "weight", "I", true)
def tyX8 : Nat → FieldType := fun k => match k with
  | 0 => .int
  | _ => .int
abbrev wsX80 : List Cond := u_ws RX8 TX8 2
theorem nmX8 : ∀ a, a < 2 → ∀ b, b < 2 → a ≠ b → (TX8 a).2.1 ≠ (TX8 b).2.1 := by decide +kernel
theorem tyX8_ok : ∀ k, k < 2 → parseFieldDescriptor (TX8 k).2.2.1 = some (tyX8 k) := by decide +kernel
abbrev cX8_init : ByteArray := prog_10_method_1_code
def yX8_init : MethodName := ⟨RX8, "<init>", "(II)V"⟩
abbrev cX8_kindNumber : ByteArray := prog_10_method_2_code
def yX8_kindNumber : MethodName := ⟨RX8, "kindNumber", "()I"⟩
abbrev cX8_heavyWith : ByteArray := prog_10_method_3_code
def yX8_heavyWith : MethodName := ⟨RX8, "heavyWith", "(II)I"⟩
abbrev cX8_sizeBy : ByteArray := prog_10_method_4_code
def yX8_sizeBy : MethodName := ⟨RX8, "sizeBy", "(LYesterdayScale$Asking;I)I"⟩
def RX9 : String := "YesterdayScale$Wool"
def TX9 : u_T := fun k => match k with
  | 0 => ("YesterdayScale$Thing", "number", "I", true)
  | _ => ("YesterdayScale$Thing", "weight", "I", true)
def tyX9 : Nat → FieldType := fun k => match k with
  | 0 => .int
  | _ => .int
abbrev wsX90 : List Cond := u_ws RX9 TX9 2
theorem nmX9 : ∀ a, a < 2 → ∀ b, b < 2 → a ≠ b → (TX9 a).2.1 ≠ (TX9 b).2.1 := by decide +kernel
theorem tyX9_ok : ∀ k, k < 2 → parseFieldDescriptor (TX9 k).2.2.1 = some (tyX9 k) := by decide +kernel
abbrev cX9_init : ByteArray := prog_11_method_1_code
def yX9_init : MethodName := ⟨RX9, "<init>", "(II)V"⟩
abbrev cX9_kindNumber : ByteArray := prog_11_method_2_code
def yX9_kindNumber : MethodName := ⟨RX9, "kindNumber", "()I"⟩
abbrev cX9_heavyWith : ByteArray := prog_11_method_3_code
def yX9_heavyWith : MethodName := ⟨RX9, "heavyWith", "(II)I"⟩
abbrev cX9_sizeBy : ByteArray := prog_11_method_4_code
def yX9_sizeBy : MethodName := ⟨RX9, "sizeBy", "(LYesterdayScale$Asking;I)I"⟩
abbrev cX9_markBy : ByteArray := prog_11_method_5_code
def yX9_markBy : MethodName := ⟨RX9, "markBy", "(LYesterdayScale$Asking;I)I"⟩
def RX10 : String := "YesterdayScale$Worlds"
def TX10 : u_T := fun k => match k with
  | 0 => ("YesterdayScale$Worlds", "soonDays", "I", false)
  | 1 => ("YesterdayScale$Worlds", "soonKnown", "Z", false)
  | 2 => ("YesterdayScale$Worlds", "soonFirst", "I", false)
  | 3 => ("YesterdayScale$Worlds", "soonSecond", "I", false)
  | 4 => ("YesterdayScale$Worlds", "half", "I", false)
  | 5 => ("YesterdayScale$Worlds", "top", "I", false)
  | 6 => ("YesterdayScale$Worlds", "days", "I", false)
  | 7 => ("YesterdayScale$Worlds", "worlds", "I", false)
  | 8 => ("YesterdayScale$Worlds", "lower", "[I", true)
  | 9 => ("YesterdayScale$Worlds", "upper", "[I", true)
  | 10 => ("YesterdayScale$Worlds", "reaches", "[I", true)
  | 11 => ("YesterdayScale$Worlds", "told", "[I", true)
  | _ => ("YesterdayScale$Worlds", "fitting", "[I", true)
def tyX10 : Nat → FieldType := fun k => match k with
  | 0 => .int
  | 1 => .boolean
  | 2 => .int
  | 3 => .int
  | 4 => .int
  | 5 => .int
  | 6 => .int
  | 7 => .int
  | 8 => .array .int
  | 9 => .array .int
  | 10 => .array .int
  | 11 => .array .int
  | _ => .array .int
abbrev wsX100 : List Cond := u_ws RX10 TX10 13
theorem nmX10 : ∀ a, a < 13 → ∀ b, b < 13 → a ≠ b → (TX10 a).2.1 ≠ (TX10 b).2.1 := by decide +kernel
theorem tyX10_ok : ∀ k, k < 13 → parseFieldDescriptor (TX10 k).2.2.1 = some (tyX10 k) := by decide +kernel
abbrev cX10_init : ByteArray := prog_12_method_1_code
def yX10_init : MethodName := ⟨RX10, "<init>", "()V"⟩
abbrev cX10_begin : ByteArray := prog_12_method_2_code
def yX10_begin : MethodName := ⟨RX10, "begin", "(LYesterdayScale$Port;[I)V"⟩
abbrev cX10_take : ByteArray := prog_12_method_3_code
def yX10_take : MethodName := ⟨RX10, "take", "(LYesterdayScale$Port;)V"⟩
abbrev cX10_takeDay : ByteArray := prog_12_method_4_code
def yX10_takeDay : MethodName := ⟨RX10, "takeDay", "(LYesterdayScale$Port;I)V"⟩
abbrev cX10_fillPair : ByteArray := prog_12_method_5_code
def yX10_fillPair : MethodName := ⟨RX10, "fillPair", "([ILYesterdayScale$Port;II)V"⟩
abbrev cX10_heavyIn : ByteArray := prog_12_method_6_code
def yX10_heavyIn : MethodName := ⟨RX10, "heavyIn", "(LYesterdayScale$Port;III)I"⟩
abbrev cX10_weightIn : ByteArray := prog_12_method_7_code
def yX10_weightIn : MethodName := ⟨RX10, "weightIn", "(II)I"⟩
abbrev cX10_shownIn : ByteArray := prog_12_method_8_code
def yX10_shownIn : MethodName := ⟨RX10, "shownIn", "(II)I"⟩
abbrev cX10_isFitting : ByteArray := prog_12_method_9_code
def yX10_isFitting : MethodName := ⟨RX10, "isFitting", "(I)Z"⟩
abbrev cX10_howManyFit : ByteArray := prog_12_method_10_code
def yX10_howManyFit : MethodName := ⟨RX10, "howManyFit", "()I"⟩
abbrev cX10_howManyFitWith : ByteArray := prog_12_method_11_code
def yX10_howManyFitWith : MethodName := ⟨RX10, "howManyFitWith", "(II)I"⟩
abbrev cX10_sureWeight : ByteArray := prog_12_method_12_code
def yX10_sureWeight : MethodName := ⟨RX10, "sureWeight", "(I)I"⟩
abbrev cX10_sureShown : ByteArray := prog_12_method_13_code
def yX10_sureShown : MethodName := ⟨RX10, "sureShown", "(I)I"⟩
abbrev cX10_fewestFalse : ByteArray := prog_12_method_14_code
def yX10_fewestFalse : MethodName := ⟨RX10, "fewestFalse", "()I"⟩
abbrev cX10_falseIn : ByteArray := prog_12_method_15_code
def yX10_falseIn : MethodName := ⟨RX10, "falseIn", "(II)I"⟩
abbrev cX10_forget : ByteArray := prog_12_method_16_code
def yX10_forget : MethodName := ⟨RX10, "forget", "()V"⟩
abbrev cX10_soonSet : ByteArray := prog_12_method_17_code
def yX10_soonSet : MethodName := ⟨RX10, "soonSet", "(I)I"⟩
abbrev cX10_learnSoon : ByteArray := prog_12_method_18_code
def yX10_learnSoon : MethodName := ⟨RX10, "learnSoon", "(LYesterdayScale$Port;)V"⟩
abbrev cX10_worldOf : ByteArray := prog_12_method_19_code
def yX10_worldOf : MethodName := ⟨RX10, "worldOf", "(LYesterdayScale$Port;)I"⟩
abbrev cX10_gatherTrue : ByteArray := prog_12_method_20_code
def yX10_gatherTrue : MethodName := ⟨RX10, "gatherTrue", "(LYesterdayScale$Port;)I"⟩
abbrev cX10_tryDay : ByteArray := prog_12_method_21_code
def yX10_tryDay : MethodName := ⟨RX10, "tryDay", "(LYesterdayScale$Port;II)V"⟩
abbrev cX10_findOneDay : ByteArray := prog_12_method_22_code
def yX10_findOneDay : MethodName := ⟨RX10, "findOneDay", "(LYesterdayScale$Port;II)Z"⟩
abbrev cX10_findTwoDays : ByteArray := prog_12_method_23_code
def yX10_findTwoDays : MethodName := ⟨RX10, "findTwoDays", "(LYesterdayScale$Port;II)V"⟩
abbrev cX10_isAlone : ByteArray := prog_12_method_24_code
def yX10_isAlone : MethodName := ⟨RX10, "isAlone", "(III)Z"⟩
abbrev cX10_bringForward : ByteArray := prog_12_method_25_code
def yX10_bringForward : MethodName := ⟨RX10, "bringForward", "(II)I"⟩
def RX11 : String := "YesterdayScale"
def TX11 : u_T := fun k => match k with
  | 0 => ("YesterdayScale", "rows", "[LYesterdayScale$Row;", true)
  | 1 => ("YesterdayScale", "tape", "LYesterdayScale$Tape;", true)
  | 2 => ("YesterdayScale", "current", "LYesterdayScale$Port;", true)
  | 3 => ("YesterdayScale", "draft", "LYesterdayScale$Port;", true)
  | 4 => ("YesterdayScale", "images", "[LYesterdayScale$Port;", true)
  | 5 => ("YesterdayScale", "worlds", "LYesterdayScale$Worlds;", true)
  | 6 => ("YesterdayScale", "asking", "LYesterdayScale$Asking;", true)
  | 7 => ("YesterdayScale", "latestFault", "I", false)
  | _ => ("YesterdayScale", "latestFinding", "I", false)
def tyX11 : Nat → FieldType := fun k => match k with
  | 0 => .array (.object "YesterdayScale$Row")
  | 1 => .object "YesterdayScale$Tape"
  | 2 => .object "YesterdayScale$Port"
  | 3 => .object "YesterdayScale$Port"
  | 4 => .array (.object "YesterdayScale$Port")
  | 5 => .object "YesterdayScale$Worlds"
  | 6 => .object "YesterdayScale$Asking"
  | 7 => .int
  | _ => .int
abbrev wsX110 : List Cond := u_ws RX11 TX11 9
theorem nmX11 : ∀ a, a < 9 → ∀ b, b < 9 → a ≠ b → (TX11 a).2.1 ≠ (TX11 b).2.1 := by decide +kernel
theorem tyX11_ok : ∀ k, k < 9 → parseFieldDescriptor (TX11 k).2.2.1 = some (tyX11 k) := by decide +kernel
abbrev cX11_init : ByteArray := prog_1_method_1_code
def yX11_init : MethodName := ⟨RX11, "<init>", "()V"⟩
abbrev cX11_row : ByteArray := prog_1_method_2_code
def yX11_row : MethodName := ⟨RX11, "row", "(III)I"⟩
abbrev cX11_set : ByteArray := prog_1_method_3_code
def yX11_set : MethodName := ⟨RX11, "set", "(III)I"⟩
abbrev cX11_copy : ByteArray := prog_1_method_4_code
def yX11_copy : MethodName := ⟨RX11, "copy", "(IIIII)I"⟩
abbrev cX11_drop : ByteArray := prog_1_method_5_code
def yX11_drop : MethodName := ⟨RX11, "drop", "(I)I"⟩
abbrev cX11_feed : ByteArray := prog_1_method_6_code
def yX11_feed : MethodName := ⟨RX11, "feed", "(JI)I"⟩
abbrev cX11_port : ByteArray := prog_1_method_7_code
def yX11_port : MethodName := ⟨RX11, "port", "()I"⟩
abbrev cX11_fault : ByteArray := prog_1_method_8_code
def yX11_fault : MethodName := ⟨RX11, "fault", "()I"⟩
abbrev cX11_day : ByteArray := prog_1_method_9_code
def yX11_day : MethodName := ⟨RX11, "day", "(I)I"⟩
abbrev cX11_undo : ByteArray := prog_1_method_10_code
def yX11_undo : MethodName := ⟨RX11, "undo", "()I"⟩
abbrev cX11_shown : ByteArray := prog_1_method_11_code
def yX11_shown : MethodName := ⟨RX11, "shown", "(II)I"⟩
abbrev cX11_heavy : ByteArray := prog_1_method_12_code
def yX11_heavy : MethodName := ⟨RX11, "heavy", "(II)I"⟩
abbrev cX11_next : ByteArray := prog_1_method_13_code
def yX11_next : MethodName := ⟨RX11, "next", "(I)I"⟩
abbrev cX11_fits : ByteArray := prog_1_method_14_code
def yX11_fits : MethodName := ⟨RX11, "fits", "(III)I"⟩
abbrev cX11_sure : ByteArray := prog_1_method_15_code
def yX11_sure : MethodName := ⟨RX11, "sure", "(II)I"⟩
abbrev cX11_gap : ByteArray := prog_1_method_16_code
def yX11_gap : MethodName := ⟨RX11, "gap", "(II)I"⟩
abbrev cX11_wrong : ByteArray := prog_1_method_17_code
def yX11_wrong : MethodName := ⟨RX11, "wrong", "(II)I"⟩
abbrev cX11_soon : ByteArray := prog_1_method_18_code
def yX11_soon : MethodName := ⟨RX11, "soon", "(I)I"⟩
abbrev cX11_laws : ByteArray := prog_1_method_19_code
def yX11_laws : MethodName := ⟨RX11, "laws", "(I)I"⟩
abbrev cX11_error : ByteArray := prog_1_method_20_code
def yX11_error : MethodName := ⟨RX11, "error", "(I)I"⟩
abbrev cX11_sold : ByteArray := prog_1_method_21_code
def yX11_sold : MethodName := ⟨RX11, "sold", "(II)I"⟩
abbrev cX11_image : ByteArray := prog_1_method_22_code
def yX11_image : MethodName := ⟨RX11, "image", "(I)I"⟩
abbrev cX11_restore : ByteArray := prog_1_method_23_code
def yX11_restore : MethodName := ⟨RX11, "restore", "(I)I"⟩
abbrev cX11_kind : ByteArray := prog_1_method_24_code
def yX11_kind : MethodName := ⟨RX11, "kind", "(I)I"⟩
abbrev cX11_as : ByteArray := prog_1_method_25_code
def yX11_as : MethodName := ⟨RX11, "as", "(II)I"⟩
abbrev cX11_ask : ByteArray := prog_1_method_26_code
def yX11_ask : MethodName := ⟨RX11, "ask", "(II)I"⟩
abbrev cX11_trace : ByteArray := prog_1_method_27_code
def yX11_trace : MethodName := ⟨RX11, "trace", "(I)I"⟩
abbrev cX11_count : ByteArray := prog_1_method_28_code
def yX11_count : MethodName := ⟨RX11, "count", "(I)I"⟩
abbrev cX11_status : ByteArray := prog_1_method_29_code
def yX11_status : MethodName := ⟨RX11, "status", "()I"⟩
abbrev cX11_isRow : ByteArray := prog_1_method_30_code
def yX11_isRow : MethodName := ⟨RX11, "isRow", "(I)Z"⟩
abbrev cX11_isImage : ByteArray := prog_1_method_31_code
def yX11_isImage : MethodName := ⟨RX11, "isImage", "(I)Z"⟩
abbrev cX11_found : ByteArray := prog_1_method_32_code
def yX11_found : MethodName := ⟨RX11, "found", "(I)I"⟩
abbrev cX11_passed : ByteArray := prog_1_method_33_code
def yX11_passed : MethodName := ⟨RX11, "passed", "(I)I"⟩
abbrev cX11_howManyRows : ByteArray := prog_1_method_34_code
def yX11_howManyRows : MethodName := ⟨RX11, "howManyRows", "()I"⟩
abbrev cX11_refusalToTell : ByteArray := prog_1_method_35_code
def yX11_refusalToTell : MethodName := ⟨RX11, "refusalToTell", "(IZ)I"⟩
abbrev cX11_isOfKind : ByteArray := prog_1_method_36_code
def yX11_isOfKind : MethodName := ⟨RX11, "isOfKind", "(LYesterdayScale$Thing;I)Z"⟩
def RX12 : String := "YesterdayScaleModel"
def TX12 : u_T := fun k => match k with
  | 0 => ("YesterdayScaleModel", "thrown", "I", false)
  | 1 => ("YesterdayScaleModel", "status", "I", false)
  | 2 => ("YesterdayScaleModel", "lane", "[I", true)
  | 3 => ("YesterdayScaleModel", "many", "[I", true)
  | 4 => ("YesterdayScaleModel", "item", "[I", true)
  | 5 => ("YesterdayScaleModel", "port", "[I", true)
  | 6 => ("YesterdayScaleModel", "fresh", "[I", true)
  | 7 => ("YesterdayScaleModel", "tape", "[I", true)
  | 8 => ("YesterdayScaleModel", "taped", "I", false)
  | 9 => ("YesterdayScaleModel", "latest", "I", false)
  | 10 => ("YesterdayScaleModel", "length", "I", false)
  | 11 => ("YesterdayScaleModel", "cursor", "I", false)
  | 12 => ("YesterdayScaleModel", "token", "I", false)
  | 13 => ("YesterdayScaleModel", "start", "I", false)
  | 14 => ("YesterdayScaleModel", "till", "I", false)
  | 15 => ("YesterdayScaleModel", "fault", "I", false)
  | 16 => ("YesterdayScaleModel", "faultAt", "I", false)
  | 17 => ("YesterdayScaleModel", "weight", "[I", true)
  | 18 => ("YesterdayScaleModel", "keeps", "I", false)
  | 19 => ("YesterdayScaleModel", "half", "I", false)
  | 20 => ("YesterdayScaleModel", "errorAt", "I", false)
  | 21 => ("YesterdayScaleModel", "left", "[I", true)
  | 22 => ("YesterdayScaleModel", "leftMany", "I", false)
  | 23 => ("YesterdayScaleModel", "truly", "[I", true)
  | 24 => ("YesterdayScaleModel", "soonMany", "I", false)
  | 25 => ("YesterdayScaleModel", "soonSet", "I", false)
  | 26 => ("YesterdayScaleModel", "soonOther", "I", false)
  | 27 => ("YesterdayScaleModel", "isKept", "[Z", true)
  | 28 => ("YesterdayScaleModel", "kept", "[I", true)
  | 29 => ("YesterdayScaleModel", "trace", "[I", true)
  | _ => ("YesterdayScaleModel", "traced", "I", false)
def tyX12 : Nat → FieldType := fun k => match k with
  | 0 => .int
  | 1 => .int
  | 2 => .array .int
  | 3 => .array .int
  | 4 => .array .int
  | 5 => .array .int
  | 6 => .array .int
  | 7 => .array .int
  | 8 => .int
  | 9 => .int
  | 10 => .int
  | 11 => .int
  | 12 => .int
  | 13 => .int
  | 14 => .int
  | 15 => .int
  | 16 => .int
  | 17 => .array .int
  | 18 => .int
  | 19 => .int
  | 20 => .int
  | 21 => .array .int
  | 22 => .int
  | 23 => .array .int
  | 24 => .int
  | 25 => .int
  | 26 => .int
  | 27 => .array .boolean
  | 28 => .array .int
  | 29 => .array .int
  | _ => .int
abbrev wsX120 : List Cond := u_ws RX12 TX12 31
theorem nmX12 : ∀ a, a < 31 → ∀ b, b < 31 → a ≠ b → (TX12 a).2.1 ≠ (TX12 b).2.1 := by decide +kernel
theorem tyX12_ok : ∀ k, k < 31 → parseFieldDescriptor (TX12 k).2.2.1 = some (tyX12 k) := by decide +kernel
abbrev cX12_init : ByteArray := prog_14_method_1_code
def yX12_init : MethodName := ⟨RX12, "<init>", "()V"⟩
abbrev cX12_in : ByteArray := prog_14_method_3_code
def yX12_in : MethodName := ⟨RX12, "in", "(JJJ)Z"⟩
abbrev cX12_finding : ByteArray := prog_14_method_4_code
def yX12_finding : MethodName := ⟨RX12, "finding", "(I)I"⟩
abbrev cX12_isRow : ByteArray := prog_14_method_5_code
def yX12_isRow : MethodName := ⟨RX12, "isRow", "(I)Z"⟩
abbrev cX12_row : ByteArray := prog_14_method_6_code
def yX12_row : MethodName := ⟨RX12, "row", "(III)I"⟩
abbrev cX12_set : ByteArray := prog_14_method_7_code
def yX12_set : MethodName := ⟨RX12, "set", "(III)I"⟩
abbrev cX12_copy : ByteArray := prog_14_method_8_code
def yX12_copy : MethodName := ⟨RX12, "copy", "(IIIII)I"⟩
abbrev cX12_drop : ByteArray := prog_14_method_9_code
def yX12_drop : MethodName := ⟨RX12, "drop", "(I)I"⟩
abbrev cX12_feed : ByteArray := prog_14_method_10_code
def yX12_feed : MethodName := ⟨RX12, "feed", "(JI)I"⟩
abbrev cX12_byteAt : ByteArray := prog_14_method_11_code
def yX12_byteAt : MethodName := ⟨RX12, "byteAt", "(I)I"⟩
abbrev cX12_isLetter : ByteArray := prog_14_method_12_code
def yX12_isLetter : MethodName := ⟨RX12, "isLetter", "(I)Z"⟩
abbrev cX12_isFigure : ByteArray := prog_14_method_13_code
def yX12_isFigure : MethodName := ⟨RX12, "isFigure", "(I)Z"⟩
abbrev cX12_nextToken : ByteArray := prog_14_method_14_code
def yX12_nextToken : MethodName := ⟨RX12, "nextToken", "()V"⟩
abbrev cX12_begin : ByteArray := prog_14_method_15_code
def yX12_begin : MethodName := ⟨RX12, "begin", "()V"⟩
abbrev cX12_bad : ByteArray := prog_14_method_16_code
def yX12_bad : MethodName := ⟨RX12, "bad", "(I)V"⟩
abbrev cX12_must : ByteArray := prog_14_method_17_code
def yX12_must : MethodName := ⟨RX12, "must", "(Z)V"⟩
abbrev cX12_name : ByteArray := prog_14_method_18_code
def yX12_name : MethodName := ⟨RX12, "name", "()J"⟩
abbrev cX12_figures : ByteArray := prog_14_method_19_code
def yX12_figures : MethodName := ⟨RX12, "figures", "()I"⟩
abbrev cX12_number : ByteArray := prog_14_method_20_code
def yX12_number : MethodName := ⟨RX12, "number", "(II)I"⟩
abbrev cX12_kindBy : ByteArray := prog_14_method_21_code
def yX12_kindBy : MethodName := ⟨RX12, "kindBy", "(J)I"⟩
abbrev cX12_mustEnd : ByteArray := prog_14_method_22_code
def yX12_mustEnd : MethodName := ⟨RX12, "mustEnd", "()V"⟩
abbrev cX12_begins : ByteArray := prog_14_method_23_code
def yX12_begins : MethodName := ⟨RX12, "begins", "(II)V"⟩
abbrev cX12_readThing : ByteArray := prog_14_method_24_code
def yX12_readThing : MethodName := ⟨RX12, "readThing", "()V"⟩
abbrev cX12_readDay : ByteArray := prog_14_method_25_code
def yX12_readDay : MethodName := ⟨RX12, "readDay", "()V"⟩
abbrev cX12_port : ByteArray := prog_14_method_26_code
def yX12_port : MethodName := ⟨RX12, "port", "()I"⟩
abbrev cX12_fault : ByteArray := prog_14_method_27_code
def yX12_fault : MethodName := ⟨RX12, "fault", "()I"⟩
abbrev cX12_isThere : ByteArray := prog_14_method_28_code
def yX12_isThere : MethodName := ⟨RX12, "isThere", "()Z"⟩
abbrev cX12_isThing : ByteArray := prog_14_method_29_code
def yX12_isThing : MethodName := ⟨RX12, "isThing", "(I)Z"⟩
abbrev cX12_isDay : ByteArray := prog_14_method_30_code
def yX12_isDay : MethodName := ⟨RX12, "isDay", "(I)Z"⟩
abbrev cX12_isSet : ByteArray := prog_14_method_31_code
def yX12_isSet : MethodName := ⟨RX12, "isSet", "(I)Z"⟩
abbrev cX12_kindOf : ByteArray := prog_14_method_32_code
def yX12_kindOf : MethodName := ⟨RX12, "kindOf", "(I)I"⟩
abbrev cX12_layTruly : ByteArray := prog_14_method_33_code
def yX12_layTruly : MethodName := ⟨RX12, "layTruly", "()V"⟩
abbrev cX12_layWorld : ByteArray := prog_14_method_34_code
def yX12_layWorld : MethodName := ⟨RX12, "layWorld", "(I)V"⟩
abbrev cX12_worlds : ByteArray := prog_14_method_35_code
def yX12_worlds : MethodName := ⟨RX12, "worlds", "()I"⟩
abbrev cX12_heavyOn : ByteArray := prog_14_method_36_code
def yX12_heavyOn : MethodName := ⟨RX12, "heavyOn", "(II)I"⟩
abbrev cX12_loadOn : ByteArray := prog_14_method_37_code
def yX12_loadOn : MethodName := ⟨RX12, "loadOn", "(I)I"⟩
abbrev cX12_isFresh : ByteArray := prog_14_method_38_code
def yX12_isFresh : MethodName := ⟨RX12, "isFresh", "(I)Z"⟩
abbrev cX12_shows : ByteArray := prog_14_method_39_code
def yX12_shows : MethodName := ⟨RX12, "shows", "(I)I"⟩
abbrev cX12_day : ByteArray := prog_14_method_40_code
def yX12_day : MethodName := ⟨RX12, "day", "(I)I"⟩
abbrev cX12_undo : ByteArray := prog_14_method_41_code
def yX12_undo : MethodName := ⟨RX12, "undo", "()I"⟩
abbrev cX12_shown : ByteArray := prog_14_method_42_code
def yX12_shown : MethodName := ⟨RX12, "shown", "(II)I"⟩
abbrev cX12_heavy : ByteArray := prog_14_method_43_code
def yX12_heavy : MethodName := ⟨RX12, "heavy", "(II)I"⟩
abbrev cX12_next : ByteArray := prog_14_method_44_code
def yX12_next : MethodName := ⟨RX12, "next", "(I)I"⟩
abbrev cX12_barred : ByteArray := prog_14_method_45_code
def yX12_barred : MethodName := ⟨RX12, "barred", "(IZ)I"⟩
abbrev cX12_wrongDays : ByteArray := prog_14_method_46_code
def yX12_wrongDays : MethodName := ⟨RX12, "wrongDays", "(I)I"⟩
abbrev cX12_fits : ByteArray := prog_14_method_47_code
def yX12_fits : MethodName := ⟨RX12, "fits", "(III)I"⟩
abbrev cX12_sure : ByteArray := prog_14_method_48_code
def yX12_sure : MethodName := ⟨RX12, "sure", "(II)I"⟩
abbrev cX12_oneOf : ByteArray := prog_14_method_49_code
def yX12_oneOf : MethodName := ⟨RX12, "oneOf", "(I)I"⟩
abbrev cX12_gap : ByteArray := prog_14_method_50_code
def yX12_gap : MethodName := ⟨RX12, "gap", "(II)I"⟩
abbrev cX12_bits : ByteArray := prog_14_method_51_code
def yX12_bits : MethodName := ⟨RX12, "bits", "(I)I"⟩
abbrev cX12_wrong : ByteArray := prog_14_method_52_code
def yX12_wrong : MethodName := ⟨RX12, "wrong", "(II)I"⟩
abbrev cX12_layTrulyShown : ByteArray := prog_14_method_53_code
def yX12_layTrulyShown : MethodName := ⟨RX12, "layTrulyShown", "(I)V"⟩
abbrev cX12_layLeft : ByteArray := prog_14_method_54_code
def yX12_layLeft : MethodName := ⟨RX12, "layLeft", "()V"⟩
abbrev cX12_isOne : ByteArray := prog_14_method_55_code
def yX12_isOne : MethodName := ⟨RX12, "isOne", "(I)Z"⟩
abbrev cX12_laySoon : ByteArray := prog_14_method_56_code
def yX12_laySoon : MethodName := ⟨RX12, "laySoon", "()V"⟩
abbrev cX12_soon : ByteArray := prog_14_method_57_code
def yX12_soon : MethodName := ⟨RX12, "soon", "(I)I"⟩
abbrev cX12_laws : ByteArray := prog_14_method_58_code
def yX12_laws : MethodName := ⟨RX12, "laws", "(I)I"⟩
abbrev cX12_error : ByteArray := prog_14_method_59_code
def yX12_error : MethodName := ⟨RX12, "error", "(I)I"⟩
abbrev cX12_sold : ByteArray := prog_14_method_60_code
def yX12_sold : MethodName := ⟨RX12, "sold", "(II)I"⟩
abbrev cX12_image : ByteArray := prog_14_method_61_code
def yX12_image : MethodName := ⟨RX12, "image", "(I)I"⟩
abbrev cX12_restore : ByteArray := prog_14_method_62_code
def yX12_restore : MethodName := ⟨RX12, "restore", "(I)I"⟩
abbrev cX12_isOf : ByteArray := prog_14_method_63_code
def yX12_isOf : MethodName := ⟨RX12, "isOf", "(II)Z"⟩
abbrev cX12_kind : ByteArray := prog_14_method_64_code
def yX12_kind : MethodName := ⟨RX12, "kind", "(I)I"⟩
abbrev cX12_as : ByteArray := prog_14_method_65_code
def yX12_as : MethodName := ⟨RX12, "as", "(II)I"⟩
abbrev cX12_began : ByteArray := prog_14_method_66_code
def yX12_began : MethodName := ⟨RX12, "began", "(I)V"⟩
abbrev cX12_plainSize : ByteArray := prog_14_method_67_code
def yX12_plainSize : MethodName := ⟨RX12, "plainSize", "(I)I"⟩
abbrev cX12_stoneSize : ByteArray := prog_14_method_68_code
def yX12_stoneSize : MethodName := ⟨RX12, "stoneSize", "(I)I"⟩
abbrev cX12_markOf : ByteArray := prog_14_method_69_code
def yX12_markOf : MethodName := ⟨RX12, "markOf", "(I)I"⟩
abbrev cX12_sizeOf : ByteArray := prog_14_method_70_code
def yX12_sizeOf : MethodName := ⟨RX12, "sizeOf", "(I)I"⟩
abbrev cX12_ask : ByteArray := prog_14_method_71_code
def yX12_ask : MethodName := ⟨RX12, "ask", "(II)I"⟩
abbrev cX12_trace : ByteArray := prog_14_method_72_code
def yX12_trace : MethodName := ⟨RX12, "trace", "(I)I"⟩
abbrev cX12_count : ByteArray := prog_14_method_73_code
def yX12_count : MethodName := ⟨RX12, "count", "(I)I"⟩
abbrev cX12_status : ByteArray := prog_14_method_74_code
def yX12_status : MethodName := ⟨RX12, "status", "()I"⟩
def RJ6 : String := "java/lang/Integer"
def TJ6 : u_T := fun k => match k with
  | _ => ("", "", "", false)
def tyJ6 : Nat → FieldType := fun k => match k with
  | _ => .int
abbrev wsJ60 : List Cond := u_ws RJ6 TJ6 0
theorem nmJ6 : ∀ a, a < 0 → ∀ b, b < 0 → a ≠ b → (TJ6 a).2.1 ≠ (TJ6 b).2.1 := by decide +kernel
theorem tyJ6_ok : ∀ k, k < 0 → parseFieldDescriptor (TJ6 k).2.2.1 = some (tyJ6 k) := by decide +kernel
abbrev cJ6_bitCount_0f7a4 : ByteArray := prog_15_method_49_code
def yJ6_bitCount_0f7a4 : MethodName := ⟨RJ6, "bitCount", "(I)I"⟩
def RJ9 : String := "java/lang/Math"
def TJ9 : u_T := fun k => match k with
  | _ => ("", "", "", false)
def tyJ9 : Nat → FieldType := fun k => match k with
  | _ => .int
abbrev wsJ90 : List Cond := u_ws RJ9 TJ9 0
theorem nmJ9 : ∀ a, a < 0 → ∀ b, b < 0 → a ≠ b → (TJ9 a).2.1 ≠ (TJ9 b).2.1 := by decide +kernel
theorem tyJ9_ok : ∀ k, k < 0 → parseFieldDescriptor (TJ9 k).2.2.1 = some (tyJ9 k) := by decide +kernel
abbrev cJ9_max_7cf53 : ByteArray := prog_16_method_65_code
def yJ9_max_7cf53 : MethodName := ⟨RJ9, "max", "(II)I"⟩
def RJ0 : String := "java/lang/String"
def TJ0 : u_T := fun k => match k with
  | _ => ("", "", "", false)
def tyJ0 : Nat → FieldType := fun k => match k with
  | _ => .int
abbrev wsJ00 : List Cond := u_ws RJ0 TJ0 0
theorem nmJ0 : ∀ a, a < 0 → ∀ b, b < 0 → a ≠ b → (TJ0 a).2.1 ≠ (TJ0 b).2.1 := by decide +kernel
theorem tyJ0_ok : ∀ k, k < 0 → parseFieldDescriptor (TJ0 k).2.2.1 = some (tyJ0 k) := by decide +kernel
abbrev cJ0_length_8abf5 : ByteArray := prog_17_method_54_code
def yJ0_length_8abf5 : MethodName := ⟨RJ0, "length", "()I"⟩
abbrev cJ0_charAt_5068e : ByteArray := prog_17_method_56_code
def yJ0_charAt_5068e : MethodName := ⟨RJ0, "charAt", "(I)C"⟩
abbrev cJ0_coder_7d493 : ByteArray := prog_17_method_152_code
def yJ0_coder_7d493 : MethodName := ⟨RJ0, "coder", "()B"⟩
abbrev cJ0_isLatin1_aae02 : ByteArray := prog_17_method_154_code
def yJ0_isLatin1_aae02 : MethodName := ⟨RJ0, "isLatin1", "()Z"⟩
abbrev cJ0_checkIndex_df160 : ByteArray := prog_17_method_155_code
def yJ0_checkIndex_df160 : MethodName := ⟨RJ0, "checkIndex", "(II)V"⟩
def RJ1 : String := "java/lang/StringLatin1"
def TJ1 : u_T := fun k => match k with
  | _ => ("", "", "", false)
def tyJ1 : Nat → FieldType := fun k => match k with
  | _ => .int
abbrev wsJ10 : List Cond := u_ws RJ1 TJ1 0
theorem nmJ1 : ∀ a, a < 0 → ∀ b, b < 0 → a ≠ b → (TJ1 a).2.1 ≠ (TJ1 b).2.1 := by decide +kernel
theorem tyJ1_ok : ∀ k, k < 0 → parseFieldDescriptor (TJ1 k).2.2.1 = some (tyJ1 k) := by decide +kernel
abbrev cJ1_charAt_3b067 : ByteArray := prog_18_method_2_code
def yJ1_charAt_3b067 : MethodName := ⟨RJ1, "charAt", "([BI)C"⟩
def RJ2 : String := "java/lang/StringUTF16"
def TJ2 : u_T := fun k => match k with
  | _ => ("", "", "", false)
def tyJ2 : Nat → FieldType := fun k => match k with
  | _ => .int
abbrev wsJ20 : List Cond := u_ws RJ2 TJ2 0
theorem nmJ2 : ∀ a, a < 0 → ∀ b, b < 0 → a ≠ b → (TJ2 a).2.1 ≠ (TJ2 b).2.1 := by decide +kernel
theorem tyJ2_ok : ∀ k, k < 0 → parseFieldDescriptor (TJ2 k).2.2.1 = some (tyJ2 k) := by decide +kernel
abbrev cJ2_getChar_3b067 : ByteArray := prog_19_method_5_code
def yJ2_getChar_3b067 : MethodName := ⟨RJ2, "getChar", "([BI)C"⟩
abbrev cJ2_length_9d52b : ByteArray := prog_19_method_6_code
def yJ2_length_9d52b : MethodName := ⟨RJ2, "length", "([B)I"⟩
abbrev cJ2_charAt_3b067 : ByteArray := prog_19_method_83_code
def yJ2_charAt_3b067 : MethodName := ⟨RJ2, "charAt", "([BI)C"⟩
abbrev cJ2_checkIndex_2214a : ByteArray := prog_19_method_91_code
def yJ2_checkIndex_2214a : MethodName := ⟨RJ2, "checkIndex", "(I[B)V"⟩
def RJ10 : String := "java/lang/System"
def TJ10 : u_T := fun k => match k with
  | _ => ("", "", "", false)
def tyJ10 : Nat → FieldType := fun k => match k with
  | _ => .int
abbrev wsJ100 : List Cond := u_ws RJ10 TJ10 0
theorem nmJ10 : ∀ a, a < 0 → ∀ b, b < 0 → a ≠ b → (TJ10 a).2.1 ≠ (TJ10 b).2.1 := by decide +kernel
theorem tyJ10_ok : ∀ k, k < 0 → parseFieldDescriptor (TJ10 k).2.2.1 = some (tyJ10 k) := by decide +kernel
def RJ3 : String := "jdk/internal/util/Preconditions"
def TJ3 : u_T := fun k => match k with
  | _ => ("", "", "", false)
def tyJ3 : Nat → FieldType := fun k => match k with
  | _ => .int
abbrev wsJ30 : List Cond := u_ws RJ3 TJ3 0
theorem nmJ3 : ∀ a, a < 0 → ∀ b, b < 0 → a ≠ b → (TJ3 a).2.1 ≠ (TJ3 b).2.1 := by decide +kernel
theorem tyJ3_ok : ∀ k, k < 0 → parseFieldDescriptor (TJ3 k).2.2.1 = some (tyJ3 k) := by decide +kernel
abbrev cJ3_checkIndex_8e157 : ByteArray := prog_21_method_11_code
def yJ3_checkIndex_8e157 : MethodName := ⟨RJ3, "checkIndex", "(IILjava/util/function/BiFunction;)I"⟩
def RL : String := "YesterdayScaleLaw"
abbrev cL_law : ByteArray := code
def yL_law : MethodName := ⟨RL, "law", "([I)Z"⟩
abbrev vwCl : List vw_C := [(RX0, TX0, 3), (RX1, TX1, 2), (RX2, TX2, 9), (RX3, TX3, 4), (RX4, TX4, 2), (RX5, TX5, 2), (RX6, TX6, 8), (RX8, TX8, 2), (RX9, TX9, 2), (RX10, TX10, 13), (RX11, TX11, 9), (RX12, TX12, 31)]

def gT : List Cond := lw_tbl.filter goodWord
theorem gT_in {w : Cond} (i : Nat) (h : lw_tbl[i]? = some w) (h2 : goodWord w = true) : w ∈ gT := List.mem_filter.mpr ⟨List.mem_of_getElem? h, h2⟩
theorem gT_good {big : List Cond} {c : Cond} (hb : ∀ w ∈ gT, w ∈ big) (hc : c ∈ gT) : GoodIn big (c :: gT) := fun w h => by
  rcases List.mem_cons.mp h with rfl | h
  · exact ⟨hb _ hc, good_of_word (List.mem_filter.mp hc).2⟩
  · exact ⟨hb _ h, good_of_word (List.mem_filter.mp h).2⟩
abbrev gMk (y : MethodName) (c : ByteArray) (n : Nat) (r : Option FieldType) : MethodName × ByteArray × Nat × Option FieldType × List Cond := (y, c, n, r, Cond.code y c n r :: gT)
theorem tU_X0 : ∀ w ∈ wsX00, w ∈ gT := fun w h => List.mem_filter.mpr ⟨(by decide +kernel : ∀ w ∈ wsX00, w ∈ lw_tbl) w h, (by decide +kernel : ∀ w ∈ wsX00, goodWord w = true) w h⟩
theorem tU_X1 : ∀ w ∈ wsX10, w ∈ gT := fun w h => List.mem_filter.mpr ⟨(by decide +kernel : ∀ w ∈ wsX10, w ∈ lw_tbl) w h, (by decide +kernel : ∀ w ∈ wsX10, goodWord w = true) w h⟩
theorem tU_X2 : ∀ w ∈ wsX20, w ∈ gT := fun w h => List.mem_filter.mpr ⟨(by decide +kernel : ∀ w ∈ wsX20, w ∈ lw_tbl) w h, (by decide +kernel : ∀ w ∈ wsX20, goodWord w = true) w h⟩
theorem tU_X3 : ∀ w ∈ wsX30, w ∈ gT := fun w h => List.mem_filter.mpr ⟨(by decide +kernel : ∀ w ∈ wsX30, w ∈ lw_tbl) w h, (by decide +kernel : ∀ w ∈ wsX30, goodWord w = true) w h⟩
theorem tU_X4 : ∀ w ∈ wsX40, w ∈ gT := fun w h => List.mem_filter.mpr ⟨(by decide +kernel : ∀ w ∈ wsX40, w ∈ lw_tbl) w h, (by decide +kernel : ∀ w ∈ wsX40, goodWord w = true) w h⟩
theorem tU_X5 : ∀ w ∈ wsX50, w ∈ gT := fun w h => List.mem_filter.mpr ⟨(by decide +kernel : ∀ w ∈ wsX50, w ∈ lw_tbl) w h, (by decide +kernel : ∀ w ∈ wsX50, goodWord w = true) w h⟩
theorem tU_X6 : ∀ w ∈ wsX60, w ∈ gT := fun w h => List.mem_filter.mpr ⟨(by decide +kernel : ∀ w ∈ wsX60, w ∈ lw_tbl) w h, (by decide +kernel : ∀ w ∈ wsX60, goodWord w = true) w h⟩
theorem tU_X7 : ∀ w ∈ wsX70, w ∈ gT := fun w h => List.mem_filter.mpr ⟨(by decide +kernel : ∀ w ∈ wsX70, w ∈ lw_tbl) w h, (by decide +kernel : ∀ w ∈ wsX70, goodWord w = true) w h⟩
theorem tU_X8 : ∀ w ∈ wsX80, w ∈ gT := fun w h => List.mem_filter.mpr ⟨(by decide +kernel : ∀ w ∈ wsX80, w ∈ lw_tbl) w h, (by decide +kernel : ∀ w ∈ wsX80, goodWord w = true) w h⟩
theorem tU_X9 : ∀ w ∈ wsX90, w ∈ gT := fun w h => List.mem_filter.mpr ⟨(by decide +kernel : ∀ w ∈ wsX90, w ∈ lw_tbl) w h, (by decide +kernel : ∀ w ∈ wsX90, goodWord w = true) w h⟩
theorem tU_X10 : ∀ w ∈ wsX100, w ∈ gT := fun w h => List.mem_filter.mpr ⟨(by decide +kernel : ∀ w ∈ wsX100, w ∈ lw_tbl) w h, (by decide +kernel : ∀ w ∈ wsX100, goodWord w = true) w h⟩
theorem tU_X11 : ∀ w ∈ wsX110, w ∈ gT := fun w h => List.mem_filter.mpr ⟨(by decide +kernel : ∀ w ∈ wsX110, w ∈ lw_tbl) w h, (by decide +kernel : ∀ w ∈ wsX110, goodWord w = true) w h⟩
theorem tU_X12 : ∀ w ∈ wsX120, w ∈ gT := fun w h => List.mem_filter.mpr ⟨(by decide +kernel : ∀ w ∈ wsX120, w ∈ lw_tbl) w h, (by decide +kernel : ∀ w ∈ wsX120, goodWord w = true) w h⟩
end
section
set_option maxRecDepth 20000 in
theorem tIni_L : (Jvm.Cond.initialized "YesterdayScaleLaw") ∈ gT := gT_in 66 (by decide +kernel) (by decide +kernel)
set_option maxRecDepth 20000 in
theorem tIni_X11 : (Jvm.Cond.initialized "YesterdayScale") ∈ gT := gT_in 67 (by decide +kernel) (by decide +kernel)
set_option maxRecDepth 20000 in
theorem tIni_X6 : (Jvm.Cond.initialized "YesterdayScale$Tape") ∈ gT := gT_in 68 (by decide +kernel) (by decide +kernel)
set_option maxRecDepth 20000 in
theorem tIni_X2 : (Jvm.Cond.initialized "YesterdayScale$Port") ∈ gT := gT_in 69 (by decide +kernel) (by decide +kernel)
set_option maxRecDepth 20000 in
theorem tIni_X10 : (Jvm.Cond.initialized "YesterdayScale$Worlds") ∈ gT := gT_in 70 (by decide +kernel) (by decide +kernel)
set_option maxRecDepth 20000 in
theorem tIni_X0 : (Jvm.Cond.initialized "YesterdayScale$Asking") ∈ gT := gT_in 71 (by decide +kernel) (by decide +kernel)
set_option maxRecDepth 20000 in
theorem tIni_X3 : (Jvm.Cond.initialized "YesterdayScale$Row") ∈ gT := gT_in 72 (by decide +kernel) (by decide +kernel)
set_option maxRecDepth 20000 in
theorem tIni_X12 : (Jvm.Cond.initialized "YesterdayScaleModel") ∈ gT := gT_in 73 (by decide +kernel) (by decide +kernel)
set_option maxRecDepth 20000 in
theorem tIni_J10 : (Jvm.Cond.initialized "java/lang/System") ∈ gT := gT_in 74 (by decide +kernel) (by decide +kernel)
set_option maxRecDepth 20000 in
theorem tIni_J0 : (Jvm.Cond.initialized "java/lang/String") ∈ gT := gT_in 75 (by decide +kernel) (by decide +kernel)
set_option maxRecDepth 20000 in
theorem tIni_J1 : (Jvm.Cond.initialized "java/lang/StringLatin1") ∈ gT := gT_in 76 (by decide +kernel) (by decide +kernel)
set_option maxRecDepth 20000 in
theorem tIni_J3 : (Jvm.Cond.initialized "jdk/internal/util/Preconditions") ∈ gT := gT_in 77 (by decide +kernel) (by decide +kernel)
set_option maxRecDepth 20000 in
theorem tIni_J2 : (Jvm.Cond.initialized "java/lang/StringUTF16") ∈ gT := gT_in 78 (by decide +kernel) (by decide +kernel)
set_option maxRecDepth 20000 in
theorem tIni_X7 : (Jvm.Cond.initialized "YesterdayScale$Thing") ∈ gT := gT_in 79 (by decide +kernel) (by decide +kernel)
set_option maxRecDepth 20000 in
theorem tIni_X4 : (Jvm.Cond.initialized "YesterdayScale$Salt") ∈ gT := gT_in 80 (by decide +kernel) (by decide +kernel)
set_option maxRecDepth 20000 in
theorem tIni_X1 : (Jvm.Cond.initialized "YesterdayScale$Fish") ∈ gT := gT_in 81 (by decide +kernel) (by decide +kernel)
set_option maxRecDepth 20000 in
theorem tIni_X9 : (Jvm.Cond.initialized "YesterdayScale$Wool") ∈ gT := gT_in 82 (by decide +kernel) (by decide +kernel)
set_option maxRecDepth 20000 in
theorem tIni_X5 : (Jvm.Cond.initialized "YesterdayScale$Stone") ∈ gT := gT_in 83 (by decide +kernel) (by decide +kernel)
set_option maxRecDepth 20000 in
theorem tIni_X8 : (Jvm.Cond.initialized "YesterdayScale$Whale") ∈ gT := gT_in 84 (by decide +kernel) (by decide +kernel)
set_option maxRecDepth 20000 in
theorem tIni_J9 : (Jvm.Cond.initialized "java/lang/Math") ∈ gT := gT_in 85 (by decide +kernel) (by decide +kernel)
set_option maxRecDepth 20000 in
theorem tIni_J6 : (Jvm.Cond.initialized "java/lang/Integer") ∈ gT := gT_in 86 (by decide +kernel) (by decide +kernel)
set_option maxRecDepth 20000 in
theorem tC_L_7 : (Jvm.Cond.classLink "YesterdayScaleLaw" (7 : Nat) "YesterdayScale") ∈ gT := gT_in 87 (by decide +kernel) (by decide +kernel)
set_option maxRecDepth 20000 in
theorem tIns_X11 : (Jvm.Cond.instantiable "YesterdayScale" (9 : Nat)) ∈ gT := gT_in 88 (by decide +kernel) (by decide +kernel)
set_option maxRecDepth 20000 in
theorem tM_L_9 : (Jvm.Cond.methodLink "YesterdayScaleLaw" (9 : Nat) ({ cls := "YesterdayScale", name := "<init>", desc := "()V" } : Jvm.MethodName)) ∈ gT := gT_in 89 (by decide +kernel) (by decide +kernel)
set_option maxRecDepth 20000 in
theorem tI_X11_init : (Jvm.Cond.instanceMethod ({ cls := "YesterdayScale", name := "<init>", desc := "()V" } : Jvm.MethodName)) ∈ gT := gT_in 90 (by decide +kernel) (by decide +kernel)
set_option maxRecDepth 20000 in
theorem tY_X11_init : (Jvm.Cond.code ({ cls := "YesterdayScale", name := "<init>", desc := "()V" } : Jvm.MethodName) prog_1_method_1_code (2 : Nat) (Option.none : Option Jvm.ClassFile.FieldType)) ∈ gT := gT_in 91 (by decide +kernel) (by decide +kernel)
set_option maxRecDepth 20000 in
theorem tM_X11_1 : (Jvm.Cond.methodLink "YesterdayScale" (1 : Nat) ({ cls := "java/lang/Object", name := "<init>", desc := "()V" } : Jvm.MethodName)) ∈ gT := gT_in 92 (by decide +kernel) (by decide +kernel)
set_option maxRecDepth 20000 in
theorem tI_obj : (Jvm.Cond.instanceMethod ({ cls := "java/lang/Object", name := "<init>", desc := "()V" } : Jvm.MethodName)) ∈ gT := gT_in 93 (by decide +kernel) (by decide +kernel)
set_option maxRecDepth 20000 in
theorem tY_obj : (Jvm.Cond.code ({ cls := "java/lang/Object", name := "<init>", desc := "()V" } : Jvm.MethodName) object_method_1_code (1 : Nat) (Option.none : Option Jvm.ClassFile.FieldType)) ∈ gT := gT_in 94 (by decide +kernel) (by decide +kernel)
set_option maxRecDepth 20000 in
theorem tC_X11_9 : (Jvm.Cond.classLink "YesterdayScale" (9 : Nat) "YesterdayScale$Row") ∈ gT := gT_in 95 (by decide +kernel) (by decide +kernel)
set_option maxRecDepth 20000 in
theorem tC_X11_15 : (Jvm.Cond.classLink "YesterdayScale" (15 : Nat) "YesterdayScale$Tape") ∈ gT := gT_in 97 (by decide +kernel) (by decide +kernel)
set_option maxRecDepth 20000 in
theorem tIns_X6 : (Jvm.Cond.instantiable "YesterdayScale$Tape" (8 : Nat)) ∈ gT := gT_in 98 (by decide +kernel) (by decide +kernel)
set_option maxRecDepth 20000 in
theorem tI_X6_init : (Jvm.Cond.instanceMethod ({ cls := "YesterdayScale$Tape", name := "<init>", desc := "()V" } : Jvm.MethodName)) ∈ gT := gT_in 100 (by decide +kernel) (by decide +kernel)
set_option maxRecDepth 20000 in
theorem tY_X6_init : (Jvm.Cond.code ({ cls := "YesterdayScale$Tape", name := "<init>", desc := "()V" } : Jvm.MethodName) prog_8_method_1_code (1 : Nat) (Option.none : Option Jvm.ClassFile.FieldType)) ∈ gT := gT_in 101 (by decide +kernel) (by decide +kernel)
set_option maxRecDepth 20000 in
theorem tM_X6_3 : (Jvm.Cond.methodLink "YesterdayScale$Tape" (3 : Nat) ({ cls := "java/lang/Object", name := "<init>", desc := "()V" } : Jvm.MethodName)) ∈ gT := gT_in 102 (by decide +kernel) (by decide +kernel)
set_option maxRecDepth 20000 in
theorem tF_X6_11 : (Jvm.Cond.fieldLink "YesterdayScale$Tape" (11 : Nat) "YesterdayScale$Tape" "bytes" "[B") ∈ gT := gT_in 103 (by decide +kernel) (by decide +kernel)
set_option maxRecDepth 20000 in
theorem tF_X6_15 : (Jvm.Cond.fieldLink "YesterdayScale$Tape" (15 : Nat) "YesterdayScale$Tape" "length" "I") ∈ gT := gT_in 104 (by decide +kernel) (by decide +kernel)
set_option maxRecDepth 20000 in
theorem tF_X11_255 : (Jvm.Cond.fieldLink "YesterdayScale" (255 : Nat) "YesterdayScale$Tape" "length" "I") ∈ gT := gT_in 105 (by decide +kernel) (by decide +kernel)
set_option maxRecDepth 20000 in
theorem tF_X11_107 : (Jvm.Cond.fieldLink "YesterdayScale" (107 : Nat) "YesterdayScale$Tape" "faultNumber" "I") ∈ gT := gT_in 106 (by decide +kernel) (by decide +kernel)
set_option maxRecDepth 20000 in
theorem tF_X6_128 : (Jvm.Cond.fieldLink "YesterdayScale$Tape" (128 : Nat) "YesterdayScale$Tape" "faultNumber" "I") ∈ gT := gT_in 107 (by decide +kernel) (by decide +kernel)
set_option maxRecDepth 20000 in
theorem tF_X11_114 : (Jvm.Cond.fieldLink "YesterdayScale" (114 : Nat) "YesterdayScale$Tape" "faultPlace" "I") ∈ gT := gT_in 108 (by decide +kernel) (by decide +kernel)
set_option maxRecDepth 20000 in
theorem tF_X6_134 : (Jvm.Cond.fieldLink "YesterdayScale$Tape" (134 : Nat) "YesterdayScale$Tape" "faultPlace" "I") ∈ gT := gT_in 109 (by decide +kernel) (by decide +kernel)
set_option maxRecDepth 20000 in
theorem tF_X6_24 : (Jvm.Cond.fieldLink "YesterdayScale$Tape" (24 : Nat) "YesterdayScale$Tape" "at" "I") ∈ gT := gT_in 110 (by decide +kernel) (by decide +kernel)
set_option maxRecDepth 20000 in
theorem tF_X6_131 : (Jvm.Cond.fieldLink "YesterdayScale$Tape" (131 : Nat) "YesterdayScale$Tape" "start" "I") ∈ gT := gT_in 111 (by decide +kernel) (by decide +kernel)
set_option maxRecDepth 20000 in
theorem tF_X6_102 : (Jvm.Cond.fieldLink "YesterdayScale$Tape" (102 : Nat) "YesterdayScale$Tape" "token" "I") ∈ gT := gT_in 112 (by decide +kernel) (by decide +kernel)
set_option maxRecDepth 20000 in
theorem tF_X6_58 : (Jvm.Cond.fieldLink "YesterdayScale$Tape" (58 : Nat) "YesterdayScale$Tape" "taken" "I") ∈ gT := gT_in 113 (by decide +kernel) (by decide +kernel)
set_option maxRecDepth 20000 in
theorem tSup_X6 : (Jvm.Cond.superclass "YesterdayScale$Tape" "java/lang/Object") ∈ gT := gT_in 130 (by decide +kernel) (by decide +kernel)
set_option maxRecDepth 20000 in
theorem tArr_byte : (Jvm.Cond.arrayClass Jvm.ClassFile.FieldType.byte) ∈ gT := gT_in 131 (by decide +kernel) (by decide +kernel)
set_option maxRecDepth 20000 in
theorem tC_X11_22 : (Jvm.Cond.classLink "YesterdayScale" (22 : Nat) "YesterdayScale$Port") ∈ gT := gT_in 132 (by decide +kernel) (by decide +kernel)
set_option maxRecDepth 20000 in
theorem tIns_X2 : (Jvm.Cond.instantiable "YesterdayScale$Port" (9 : Nat)) ∈ gT := gT_in 133 (by decide +kernel) (by decide +kernel)
set_option maxRecDepth 20000 in
theorem tI_X2_init : (Jvm.Cond.instanceMethod ({ cls := "YesterdayScale$Port", name := "<init>", desc := "()V" } : Jvm.MethodName)) ∈ gT := gT_in 135 (by decide +kernel) (by decide +kernel)
set_option maxRecDepth 20000 in
theorem tY_X2_init : (Jvm.Cond.code ({ cls := "YesterdayScale$Port", name := "<init>", desc := "()V" } : Jvm.MethodName) prog_4_method_1_code (1 : Nat) (Option.none : Option Jvm.ClassFile.FieldType)) ∈ gT := gT_in 136 (by decide +kernel) (by decide +kernel)
set_option maxRecDepth 20000 in
theorem tM_X2_3 : (Jvm.Cond.methodLink "YesterdayScale$Port" (3 : Nat) ({ cls := "java/lang/Object", name := "<init>", desc := "()V" } : Jvm.MethodName)) ∈ gT := gT_in 137 (by decide +kernel) (by decide +kernel)
set_option maxRecDepth 20000 in
theorem tC_X2_9 : (Jvm.Cond.classLink "YesterdayScale$Port" (9 : Nat) "YesterdayScale$Thing") ∈ gT := gT_in 138 (by decide +kernel) (by decide +kernel)
set_option maxRecDepth 20000 in
theorem tF_X2_21 : (Jvm.Cond.fieldLink "YesterdayScale$Port" (21 : Nat) "YesterdayScale$Port" "there" "Z") ∈ gT := gT_in 140 (by decide +kernel) (by decide +kernel)
set_option maxRecDepth 20000 in
theorem tF_X6_44 : (Jvm.Cond.fieldLink "YesterdayScale$Tape" (44 : Nat) "YesterdayScale$Port" "there" "Z") ∈ gT := gT_in 141 (by decide +kernel) (by decide +kernel)
set_option maxRecDepth 20000 in
theorem tF_X11_127 : (Jvm.Cond.fieldLink "YesterdayScale" (127 : Nat) "YesterdayScale$Port" "there" "Z") ∈ gT := gT_in 142 (by decide +kernel) (by decide +kernel)
set_option maxRecDepth 20000 in
theorem tF_X2_25 : (Jvm.Cond.fieldLink "YesterdayScale$Port" (25 : Nat) "YesterdayScale$Port" "keeps" "I") ∈ gT := gT_in 143 (by decide +kernel) (by decide +kernel)
set_option maxRecDepth 20000 in
theorem tF_X10_62 : (Jvm.Cond.fieldLink "YesterdayScale$Worlds" (62 : Nat) "YesterdayScale$Port" "keeps" "I") ∈ gT := gT_in 144 (by decide +kernel) (by decide +kernel)
set_option maxRecDepth 20000 in
theorem tF_X6_61 : (Jvm.Cond.fieldLink "YesterdayScale$Tape" (61 : Nat) "YesterdayScale$Port" "keeps" "I") ∈ gT := gT_in 145 (by decide +kernel) (by decide +kernel)
set_option maxRecDepth 20000 in
theorem tF_X11_246 : (Jvm.Cond.fieldLink "YesterdayScale" (246 : Nat) "YesterdayScale$Port" "keeps" "I") ∈ gT := gT_in 146 (by decide +kernel) (by decide +kernel)
set_option maxRecDepth 20000 in
theorem tF_X2_29 : (Jvm.Cond.fieldLink "YesterdayScale$Port" (29 : Nat) "YesterdayScale$Port" "half" "I") ∈ gT := gT_in 147 (by decide +kernel) (by decide +kernel)
set_option maxRecDepth 20000 in
theorem tF_X10_41 : (Jvm.Cond.fieldLink "YesterdayScale$Worlds" (41 : Nat) "YesterdayScale$Port" "half" "I") ∈ gT := gT_in 148 (by decide +kernel) (by decide +kernel)
set_option maxRecDepth 20000 in
theorem tF_X6_64 : (Jvm.Cond.fieldLink "YesterdayScale$Tape" (64 : Nat) "YesterdayScale$Port" "half" "I") ∈ gT := gT_in 149 (by decide +kernel) (by decide +kernel)
set_option maxRecDepth 20000 in
theorem tF_X11_249 : (Jvm.Cond.fieldLink "YesterdayScale" (249 : Nat) "YesterdayScale$Port" "half" "I") ∈ gT := gT_in 150 (by decide +kernel) (by decide +kernel)
set_option maxRecDepth 20000 in
theorem tF_X2_32 : (Jvm.Cond.fieldLink "YesterdayScale$Port" (32 : Nat) "YesterdayScale$Port" "top" "I") ∈ gT := gT_in 151 (by decide +kernel) (by decide +kernel)
set_option maxRecDepth 20000 in
theorem tF_X10_47 : (Jvm.Cond.fieldLink "YesterdayScale$Worlds" (47 : Nat) "YesterdayScale$Port" "top" "I") ∈ gT := gT_in 152 (by decide +kernel) (by decide +kernel)
set_option maxRecDepth 20000 in
theorem tF_X6_67 : (Jvm.Cond.fieldLink "YesterdayScale$Tape" (67 : Nat) "YesterdayScale$Port" "top" "I") ∈ gT := gT_in 153 (by decide +kernel) (by decide +kernel)
set_option maxRecDepth 20000 in
theorem tF_X11_252 : (Jvm.Cond.fieldLink "YesterdayScale" (252 : Nat) "YesterdayScale$Port" "top" "I") ∈ gT := gT_in 154 (by decide +kernel) (by decide +kernel)
set_option maxRecDepth 20000 in
theorem tF_X2_35 : (Jvm.Cond.fieldLink "YesterdayScale$Port" (35 : Nat) "YesterdayScale$Port" "things" "I") ∈ gT := gT_in 155 (by decide +kernel) (by decide +kernel)
set_option maxRecDepth 20000 in
theorem tF_X10_52 : (Jvm.Cond.fieldLink "YesterdayScale$Worlds" (52 : Nat) "YesterdayScale$Port" "things" "I") ∈ gT := gT_in 156 (by decide +kernel) (by decide +kernel)
set_option maxRecDepth 20000 in
theorem tF_X11_243 : (Jvm.Cond.fieldLink "YesterdayScale" (243 : Nat) "YesterdayScale$Port" "things" "I") ∈ gT := gT_in 157 (by decide +kernel) (by decide +kernel)
set_option maxRecDepth 20000 in
theorem tF_X2_38 : (Jvm.Cond.fieldLink "YesterdayScale$Port" (38 : Nat) "YesterdayScale$Port" "days" "I") ∈ gT := gT_in 158 (by decide +kernel) (by decide +kernel)
set_option maxRecDepth 20000 in
theorem tF_X10_51 : (Jvm.Cond.fieldLink "YesterdayScale$Worlds" (51 : Nat) "YesterdayScale$Port" "days" "I") ∈ gT := gT_in 159 (by decide +kernel) (by decide +kernel)
set_option maxRecDepth 20000 in
theorem tF_X11_124 : (Jvm.Cond.fieldLink "YesterdayScale" (124 : Nat) "YesterdayScale$Port" "days" "I") ∈ gT := gT_in 160 (by decide +kernel) (by decide +kernel)
set_option maxRecDepth 20000 in
theorem tF_X2_41 : (Jvm.Cond.fieldLink "YesterdayScale$Port" (41 : Nat) "YesterdayScale$Port" "stones" "I") ∈ gT := gT_in 161 (by decide +kernel) (by decide +kernel)
set_option maxRecDepth 20000 in
theorem tF_X2_11 : (Jvm.Cond.fieldLink "YesterdayScale$Port" (11 : Nat) "YesterdayScale$Port" "laid" "[LYesterdayScale$Thing;") ∈ gT := gT_in 162 (by decide +kernel) (by decide +kernel)
set_option maxRecDepth 20000 in
theorem tF_X10_141 : (Jvm.Cond.fieldLink "YesterdayScale$Worlds" (141 : Nat) "YesterdayScale$Port" "laid" "[LYesterdayScale$Thing;") ∈ gT := gT_in 163 (by decide +kernel) (by decide +kernel)
set_option maxRecDepth 20000 in
theorem tF_X2_17 : (Jvm.Cond.fieldLink "YesterdayScale$Port" (17 : Nat) "YesterdayScale$Port" "sets" "[I") ∈ gT := gT_in 164 (by decide +kernel) (by decide +kernel)
set_option maxRecDepth 20000 in
theorem tF_X11_142 : (Jvm.Cond.fieldLink "YesterdayScale" (142 : Nat) "YesterdayScale$Port" "sets" "[I") ∈ gT := gT_in 165 (by decide +kernel) (by decide +kernel)
set_option maxRecDepth 20000 in
theorem tF_X10_151 : (Jvm.Cond.fieldLink "YesterdayScale$Worlds" (151 : Nat) "YesterdayScale$Port" "sets" "[I") ∈ gT := gT_in 166 (by decide +kernel) (by decide +kernel)
set_option maxRecDepth 20000 in
theorem tSup_X2 : (Jvm.Cond.superclass "YesterdayScale$Port" "java/lang/Object") ∈ gT := gT_in 185 (by decide +kernel) (by decide +kernel)
set_option maxRecDepth 20000 in
theorem tArr_int : (Jvm.Cond.arrayClass Jvm.ClassFile.FieldType.int) ∈ gT := gT_in 186 (by decide +kernel) (by decide +kernel)
set_option maxRecDepth 20000 in
theorem tC_X11_36 : (Jvm.Cond.classLink "YesterdayScale" (36 : Nat) "YesterdayScale$Worlds") ∈ gT := gT_in 188 (by decide +kernel) (by decide +kernel)
set_option maxRecDepth 20000 in
theorem tIns_X10 : (Jvm.Cond.instantiable "YesterdayScale$Worlds" (13 : Nat)) ∈ gT := gT_in 189 (by decide +kernel) (by decide +kernel)
set_option maxRecDepth 20000 in
theorem tI_X10_init : (Jvm.Cond.instanceMethod ({ cls := "YesterdayScale$Worlds", name := "<init>", desc := "()V" } : Jvm.MethodName)) ∈ gT := gT_in 191 (by decide +kernel) (by decide +kernel)
set_option maxRecDepth 20000 in
theorem tY_X10_init : (Jvm.Cond.code ({ cls := "YesterdayScale$Worlds", name := "<init>", desc := "()V" } : Jvm.MethodName) prog_12_method_1_code (1 : Nat) (Option.none : Option Jvm.ClassFile.FieldType)) ∈ gT := gT_in 192 (by decide +kernel) (by decide +kernel)
set_option maxRecDepth 20000 in
theorem tM_X10_5 : (Jvm.Cond.methodLink "YesterdayScale$Worlds" (5 : Nat) ({ cls := "java/lang/Object", name := "<init>", desc := "()V" } : Jvm.MethodName)) ∈ gT := gT_in 193 (by decide +kernel) (by decide +kernel)
set_option maxRecDepth 20000 in
theorem tF_X10_117 : (Jvm.Cond.fieldLink "YesterdayScale$Worlds" (117 : Nat) "YesterdayScale$Worlds" "soonDays" "I") ∈ gT := gT_in 194 (by decide +kernel) (by decide +kernel)
set_option maxRecDepth 20000 in
theorem tF_X11_195 : (Jvm.Cond.fieldLink "YesterdayScale" (195 : Nat) "YesterdayScale$Worlds" "soonDays" "I") ∈ gT := gT_in 195 (by decide +kernel) (by decide +kernel)
set_option maxRecDepth 20000 in
theorem tF_X10_113 : (Jvm.Cond.fieldLink "YesterdayScale$Worlds" (113 : Nat) "YesterdayScale$Worlds" "soonKnown" "Z") ∈ gT := gT_in 196 (by decide +kernel) (by decide +kernel)
set_option maxRecDepth 20000 in
theorem tF_X10_120 : (Jvm.Cond.fieldLink "YesterdayScale$Worlds" (120 : Nat) "YesterdayScale$Worlds" "soonFirst" "I") ∈ gT := gT_in 197 (by decide +kernel) (by decide +kernel)
set_option maxRecDepth 20000 in
theorem tF_X10_123 : (Jvm.Cond.fieldLink "YesterdayScale$Worlds" (123 : Nat) "YesterdayScale$Worlds" "soonSecond" "I") ∈ gT := gT_in 198 (by decide +kernel) (by decide +kernel)
set_option maxRecDepth 20000 in
theorem tF_X10_46 : (Jvm.Cond.fieldLink "YesterdayScale$Worlds" (46 : Nat) "YesterdayScale$Worlds" "half" "I") ∈ gT := gT_in 199 (by decide +kernel) (by decide +kernel)
set_option maxRecDepth 20000 in
theorem tF_X10_50 : (Jvm.Cond.fieldLink "YesterdayScale$Worlds" (50 : Nat) "YesterdayScale$Worlds" "top" "I") ∈ gT := gT_in 200 (by decide +kernel) (by decide +kernel)
set_option maxRecDepth 20000 in
theorem tF_X10_31 : (Jvm.Cond.fieldLink "YesterdayScale$Worlds" (31 : Nat) "YesterdayScale$Worlds" "days" "I") ∈ gT := gT_in 201 (by decide +kernel) (by decide +kernel)
set_option maxRecDepth 20000 in
theorem tF_X10_55 : (Jvm.Cond.fieldLink "YesterdayScale$Worlds" (55 : Nat) "YesterdayScale$Worlds" "worlds" "I") ∈ gT := gT_in 202 (by decide +kernel) (by decide +kernel)
set_option maxRecDepth 20000 in
theorem tF_X10_11 : (Jvm.Cond.fieldLink "YesterdayScale$Worlds" (11 : Nat) "YesterdayScale$Worlds" "lower" "[I") ∈ gT := gT_in 203 (by decide +kernel) (by decide +kernel)
set_option maxRecDepth 20000 in
theorem tF_X10_15 : (Jvm.Cond.fieldLink "YesterdayScale$Worlds" (15 : Nat) "YesterdayScale$Worlds" "upper" "[I") ∈ gT := gT_in 204 (by decide +kernel) (by decide +kernel)
set_option maxRecDepth 20000 in
theorem tF_X10_18 : (Jvm.Cond.fieldLink "YesterdayScale$Worlds" (18 : Nat) "YesterdayScale$Worlds" "reaches" "[I") ∈ gT := gT_in 205 (by decide +kernel) (by decide +kernel)
set_option maxRecDepth 20000 in
theorem tF_X10_21 : (Jvm.Cond.fieldLink "YesterdayScale$Worlds" (21 : Nat) "YesterdayScale$Worlds" "told" "[I") ∈ gT := gT_in 206 (by decide +kernel) (by decide +kernel)
set_option maxRecDepth 20000 in
theorem tF_X10_24 : (Jvm.Cond.fieldLink "YesterdayScale$Worlds" (24 : Nat) "YesterdayScale$Worlds" "fitting" "[I") ∈ gT := gT_in 207 (by decide +kernel) (by decide +kernel)
set_option maxRecDepth 20000 in
theorem tSup_X10 : (Jvm.Cond.superclass "YesterdayScale$Worlds" "java/lang/Object") ∈ gT := gT_in 234 (by decide +kernel) (by decide +kernel)
set_option maxRecDepth 20000 in
theorem tC_X11_43 : (Jvm.Cond.classLink "YesterdayScale" (43 : Nat) "YesterdayScale$Asking") ∈ gT := gT_in 235 (by decide +kernel) (by decide +kernel)
set_option maxRecDepth 20000 in
theorem tIns_X0 : (Jvm.Cond.instantiable "YesterdayScale$Asking" (3 : Nat)) ∈ gT := gT_in 236 (by decide +kernel) (by decide +kernel)
set_option maxRecDepth 20000 in
theorem tI_X0_init : (Jvm.Cond.instanceMethod ({ cls := "YesterdayScale$Asking", name := "<init>", desc := "()V" } : Jvm.MethodName)) ∈ gT := gT_in 238 (by decide +kernel) (by decide +kernel)
set_option maxRecDepth 20000 in
theorem tY_X0_init : (Jvm.Cond.code ({ cls := "YesterdayScale$Asking", name := "<init>", desc := "()V" } : Jvm.MethodName) prog_2_method_1_code (1 : Nat) (Option.none : Option Jvm.ClassFile.FieldType)) ∈ gT := gT_in 239 (by decide +kernel) (by decide +kernel)
set_option maxRecDepth 20000 in
theorem tM_X0_1 : (Jvm.Cond.methodLink "YesterdayScale$Asking" (1 : Nat) ({ cls := "java/lang/Object", name := "<init>", desc := "()V" } : Jvm.MethodName)) ∈ gT := gT_in 240 (by decide +kernel) (by decide +kernel)
set_option maxRecDepth 20000 in
theorem tF_X0_13 : (Jvm.Cond.fieldLink "YesterdayScale$Asking" (13 : Nat) "YesterdayScale$Asking" "traced" "I") ∈ gT := gT_in 241 (by decide +kernel) (by decide +kernel)
set_option maxRecDepth 20000 in
theorem tF_X11_233 : (Jvm.Cond.fieldLink "YesterdayScale" (233 : Nat) "YesterdayScale$Asking" "traced" "I") ∈ gT := gT_in 242 (by decide +kernel) (by decide +kernel)
set_option maxRecDepth 20000 in
theorem tF_X0_17 : (Jvm.Cond.fieldLink "YesterdayScale$Asking" (17 : Nat) "YesterdayScale$Asking" "days" "I") ∈ gT := gT_in 243 (by decide +kernel) (by decide +kernel)
set_option maxRecDepth 20000 in
theorem tF_X4_23 : (Jvm.Cond.fieldLink "YesterdayScale$Salt" (23 : Nat) "YesterdayScale$Asking" "days" "I") ∈ gT := gT_in 244 (by decide +kernel) (by decide +kernel)
set_option maxRecDepth 20000 in
theorem tF_X0_9 : (Jvm.Cond.fieldLink "YesterdayScale$Asking" (9 : Nat) "YesterdayScale$Asking" "numbers" "[I") ∈ gT := gT_in 245 (by decide +kernel) (by decide +kernel)
set_option maxRecDepth 20000 in
theorem tF_X11_236 : (Jvm.Cond.fieldLink "YesterdayScale" (236 : Nat) "YesterdayScale$Asking" "numbers" "[I") ∈ gT := gT_in 246 (by decide +kernel) (by decide +kernel)
set_option maxRecDepth 20000 in
theorem tSup_X0 : (Jvm.Cond.superclass "YesterdayScale$Asking" "java/lang/Object") ∈ gT := gT_in 253 (by decide +kernel) (by decide +kernel)
set_option maxRecDepth 20000 in
theorem tIns_X3 : (Jvm.Cond.instantiable "YesterdayScale$Row" (4 : Nat)) ∈ gT := gT_in 254 (by decide +kernel) (by decide +kernel)
set_option maxRecDepth 20000 in
theorem tI_X3_init : (Jvm.Cond.instanceMethod ({ cls := "YesterdayScale$Row", name := "<init>", desc := "()V" } : Jvm.MethodName)) ∈ gT := gT_in 256 (by decide +kernel) (by decide +kernel)
set_option maxRecDepth 20000 in
theorem tY_X3_init : (Jvm.Cond.code ({ cls := "YesterdayScale$Row", name := "<init>", desc := "()V" } : Jvm.MethodName) prog_5_method_1_code (1 : Nat) (Option.none : Option Jvm.ClassFile.FieldType)) ∈ gT := gT_in 257 (by decide +kernel) (by decide +kernel)
set_option maxRecDepth 20000 in
theorem tM_X3_3 : (Jvm.Cond.methodLink "YesterdayScale$Row" (3 : Nat) ({ cls := "java/lang/Object", name := "<init>", desc := "()V" } : Jvm.MethodName)) ∈ gT := gT_in 258 (by decide +kernel) (by decide +kernel)
set_option maxRecDepth 20000 in
theorem tF_X3_15 : (Jvm.Cond.fieldLink "YesterdayScale$Row" (15 : Nat) "YesterdayScale$Row" "there" "Z") ∈ gT := gT_in 259 (by decide +kernel) (by decide +kernel)
set_option maxRecDepth 20000 in
theorem tF_X11_67 : (Jvm.Cond.fieldLink "YesterdayScale" (67 : Nat) "YesterdayScale$Row" "there" "Z") ∈ gT := gT_in 260 (by decide +kernel) (by decide +kernel)
set_option maxRecDepth 20000 in
theorem tF_X3_19 : (Jvm.Cond.fieldLink "YesterdayScale$Row" (19 : Nat) "YesterdayScale$Row" "lane" "I") ∈ gT := gT_in 261 (by decide +kernel) (by decide +kernel)
set_option maxRecDepth 20000 in
theorem tF_X11_82 : (Jvm.Cond.fieldLink "YesterdayScale" (82 : Nat) "YesterdayScale$Row" "lane" "I") ∈ gT := gT_in 262 (by decide +kernel) (by decide +kernel)
set_option maxRecDepth 20000 in
theorem tF_X3_23 : (Jvm.Cond.fieldLink "YesterdayScale$Row" (23 : Nat) "YesterdayScale$Row" "size" "I") ∈ gT := gT_in 263 (by decide +kernel) (by decide +kernel)
set_option maxRecDepth 20000 in
theorem tF_X11_71 : (Jvm.Cond.fieldLink "YesterdayScale" (71 : Nat) "YesterdayScale$Row" "size" "I") ∈ gT := gT_in 264 (by decide +kernel) (by decide +kernel)
set_option maxRecDepth 20000 in
theorem tF_X3_9 : (Jvm.Cond.fieldLink "YesterdayScale$Row" (9 : Nat) "YesterdayScale$Row" "items" "[I") ∈ gT := gT_in 265 (by decide +kernel) (by decide +kernel)
set_option maxRecDepth 20000 in
theorem tF_X11_75 : (Jvm.Cond.fieldLink "YesterdayScale" (75 : Nat) "YesterdayScale$Row" "items" "[I") ∈ gT := gT_in 266 (by decide +kernel) (by decide +kernel)
set_option maxRecDepth 20000 in
theorem tSup_X3 : (Jvm.Cond.superclass "YesterdayScale$Row" "java/lang/Object") ∈ gT := gT_in 275 (by decide +kernel) (by decide +kernel)
set_option maxRecDepth 20000 in
theorem tF_X11_11 : (Jvm.Cond.fieldLink "YesterdayScale" (11 : Nat) "YesterdayScale" "rows" "[LYesterdayScale$Row;") ∈ gT := gT_in 276 (by decide +kernel) (by decide +kernel)
set_option maxRecDepth 20000 in
theorem tF_X11_18 : (Jvm.Cond.fieldLink "YesterdayScale" (18 : Nat) "YesterdayScale" "tape" "LYesterdayScale$Tape;") ∈ gT := gT_in 277 (by decide +kernel) (by decide +kernel)
set_option maxRecDepth 20000 in
theorem tF_X11_25 : (Jvm.Cond.fieldLink "YesterdayScale" (25 : Nat) "YesterdayScale" "current" "LYesterdayScale$Port;") ∈ gT := gT_in 278 (by decide +kernel) (by decide +kernel)
set_option maxRecDepth 20000 in
theorem tF_X11_29 : (Jvm.Cond.fieldLink "YesterdayScale" (29 : Nat) "YesterdayScale" "draft" "LYesterdayScale$Port;") ∈ gT := gT_in 279 (by decide +kernel) (by decide +kernel)
set_option maxRecDepth 20000 in
theorem tF_X11_32 : (Jvm.Cond.fieldLink "YesterdayScale" (32 : Nat) "YesterdayScale" "images" "[LYesterdayScale$Port;") ∈ gT := gT_in 280 (by decide +kernel) (by decide +kernel)
set_option maxRecDepth 20000 in
theorem tF_X11_39 : (Jvm.Cond.fieldLink "YesterdayScale" (39 : Nat) "YesterdayScale" "worlds" "LYesterdayScale$Worlds;") ∈ gT := gT_in 281 (by decide +kernel) (by decide +kernel)
set_option maxRecDepth 20000 in
theorem tF_X11_46 : (Jvm.Cond.fieldLink "YesterdayScale" (46 : Nat) "YesterdayScale" "asking" "LYesterdayScale$Asking;") ∈ gT := gT_in 282 (by decide +kernel) (by decide +kernel)
set_option maxRecDepth 20000 in
theorem tF_X11_110 : (Jvm.Cond.fieldLink "YesterdayScale" (110 : Nat) "YesterdayScale" "latestFault" "I") ∈ gT := gT_in 283 (by decide +kernel) (by decide +kernel)
set_option maxRecDepth 20000 in
theorem tF_X11_258 : (Jvm.Cond.fieldLink "YesterdayScale" (258 : Nat) "YesterdayScale" "latestFinding" "I") ∈ gT := gT_in 284 (by decide +kernel) (by decide +kernel)
set_option maxRecDepth 20000 in
theorem tSup_X11 : (Jvm.Cond.superclass "YesterdayScale" "java/lang/Object") ∈ gT := gT_in 303 (by decide +kernel) (by decide +kernel)
set_option maxRecDepth 20000 in
theorem tM_L_13 : (Jvm.Cond.methodLink "YesterdayScaleLaw" (13 : Nat) ({ cls := "YesterdayScale", name := "row", desc := "(III)I" } : Jvm.MethodName)) ∈ gT := gT_in 304 (by decide +kernel) (by decide +kernel)
set_option maxRecDepth 20000 in
theorem tI_X11_row : (Jvm.Cond.instanceMethod ({ cls := "YesterdayScale", name := "row", desc := "(III)I" } : Jvm.MethodName)) ∈ gT := gT_in 305 (by decide +kernel) (by decide +kernel)
set_option maxRecDepth 20000 in
theorem tSel_X11_X11_X11_row : (Jvm.Cond.selects "YesterdayScale" ({ cls := "YesterdayScale", name := "row", desc := "(III)I" } : Jvm.MethodName) ({ cls := "YesterdayScale", name := "row", desc := "(III)I" } : Jvm.MethodName)) ∈ gT := gT_in 306 (by decide +kernel) (by decide +kernel)
set_option maxRecDepth 20000 in
theorem tY_X11_row : (Jvm.Cond.code ({ cls := "YesterdayScale", name := "row", desc := "(III)I" } : Jvm.MethodName) prog_1_method_2_code (4 : Nat) (Option.some Jvm.ClassFile.FieldType.int)) ∈ gT := gT_in 307 (by decide +kernel) (by decide +kernel)
set_option maxRecDepth 20000 in
theorem tM_X11_51 : (Jvm.Cond.methodLink "YesterdayScale" (51 : Nat) ({ cls := "YesterdayScale", name := "isRow", desc := "(I)Z" } : Jvm.MethodName)) ∈ gT := gT_in 308 (by decide +kernel) (by decide +kernel)
set_option maxRecDepth 20000 in
theorem tS_X11_isRow : (Jvm.Cond.static ({ cls := "YesterdayScale", name := "isRow", desc := "(I)Z" } : Jvm.MethodName)) ∈ gT := gT_in 309 (by decide +kernel) (by decide +kernel)
set_option maxRecDepth 20000 in
theorem tY_X11_isRow : (Jvm.Cond.code ({ cls := "YesterdayScale", name := "isRow", desc := "(I)Z" } : Jvm.MethodName) prog_1_method_30_code (1 : Nat) (Option.some Jvm.ClassFile.FieldType.boolean)) ∈ gT := gT_in 310 (by decide +kernel) (by decide +kernel)
set_option maxRecDepth 20000 in
theorem tK_X11_55 : (Jvm.Cond.constant "YesterdayScale" (55 : Nat) (-1000001 : Int32)) ∈ gT := gT_in 311 (by decide +kernel) (by decide +kernel)
set_option maxRecDepth 20000 in
theorem tM_X11_56 : (Jvm.Cond.methodLink "YesterdayScale" (56 : Nat) ({ cls := "YesterdayScale", name := "found", desc := "(I)I" } : Jvm.MethodName)) ∈ gT := gT_in 312 (by decide +kernel) (by decide +kernel)
set_option maxRecDepth 20000 in
theorem tI_X11_found : (Jvm.Cond.instanceMethod ({ cls := "YesterdayScale", name := "found", desc := "(I)I" } : Jvm.MethodName)) ∈ gT := gT_in 314 (by decide +kernel) (by decide +kernel)
set_option maxRecDepth 20000 in
theorem tY_X11_found : (Jvm.Cond.code ({ cls := "YesterdayScale", name := "found", desc := "(I)I" } : Jvm.MethodName) prog_1_method_32_code (2 : Nat) (Option.some Jvm.ClassFile.FieldType.int)) ∈ gT := gT_in 315 (by decide +kernel) (by decide +kernel)
set_option maxRecDepth 20000 in
theorem tK_X11_261 : (Jvm.Cond.constant "YesterdayScale" (261 : Nat) (-1000010 : Int32)) ∈ gT := gT_in 316 (by decide +kernel) (by decide +kernel)
set_option maxRecDepth 20000 in
theorem tM_X11_60 : (Jvm.Cond.methodLink "YesterdayScale" (60 : Nat) ({ cls := "YesterdayScale$Row", name := "begin", desc := "(II)V" } : Jvm.MethodName)) ∈ gT := gT_in 317 (by decide +kernel) (by decide +kernel)
set_option maxRecDepth 20000 in
theorem tI_X3_begin : (Jvm.Cond.instanceMethod ({ cls := "YesterdayScale$Row", name := "begin", desc := "(II)V" } : Jvm.MethodName)) ∈ gT := gT_in 318 (by decide +kernel) (by decide +kernel)
set_option maxRecDepth 20000 in
theorem tSel_X3_X3_X3_begin : (Jvm.Cond.selects "YesterdayScale$Row" ({ cls := "YesterdayScale$Row", name := "begin", desc := "(II)V" } : Jvm.MethodName) ({ cls := "YesterdayScale$Row", name := "begin", desc := "(II)V" } : Jvm.MethodName)) ∈ gT := gT_in 319 (by decide +kernel) (by decide +kernel)
set_option maxRecDepth 20000 in
theorem tY_X3_begin : (Jvm.Cond.code ({ cls := "YesterdayScale$Row", name := "begin", desc := "(II)V" } : Jvm.MethodName) prog_5_method_2_code (4 : Nat) (Option.none : Option Jvm.ClassFile.FieldType)) ∈ gT := gT_in 320 (by decide +kernel) (by decide +kernel)
set_option maxRecDepth 20000 in
theorem tM_X11_64 : (Jvm.Cond.methodLink "YesterdayScale" (64 : Nat) ({ cls := "YesterdayScale", name := "passed", desc := "(I)I" } : Jvm.MethodName)) ∈ gT := gT_in 321 (by decide +kernel) (by decide +kernel)
set_option maxRecDepth 20000 in
theorem tI_X11_passed : (Jvm.Cond.instanceMethod ({ cls := "YesterdayScale", name := "passed", desc := "(I)I" } : Jvm.MethodName)) ∈ gT := gT_in 323 (by decide +kernel) (by decide +kernel)
set_option maxRecDepth 20000 in
theorem tY_X11_passed : (Jvm.Cond.code ({ cls := "YesterdayScale", name := "passed", desc := "(I)I" } : Jvm.MethodName) prog_1_method_33_code (2 : Nat) (Option.some Jvm.ClassFile.FieldType.int)) ∈ gT := gT_in 324 (by decide +kernel) (by decide +kernel)
set_option maxRecDepth 20000 in
theorem tM_L_18 : (Jvm.Cond.methodLink "YesterdayScaleLaw" (18 : Nat) ({ cls := "YesterdayScale", name := "set", desc := "(III)I" } : Jvm.MethodName)) ∈ gT := gT_in 325 (by decide +kernel) (by decide +kernel)
set_option maxRecDepth 20000 in
theorem tI_X11_set : (Jvm.Cond.instanceMethod ({ cls := "YesterdayScale", name := "set", desc := "(III)I" } : Jvm.MethodName)) ∈ gT := gT_in 326 (by decide +kernel) (by decide +kernel)
set_option maxRecDepth 20000 in
theorem tSel_X11_X11_X11_set : (Jvm.Cond.selects "YesterdayScale" ({ cls := "YesterdayScale", name := "set", desc := "(III)I" } : Jvm.MethodName) ({ cls := "YesterdayScale", name := "set", desc := "(III)I" } : Jvm.MethodName)) ∈ gT := gT_in 327 (by decide +kernel) (by decide +kernel)
set_option maxRecDepth 20000 in
theorem tY_X11_set : (Jvm.Cond.code ({ cls := "YesterdayScale", name := "set", desc := "(III)I" } : Jvm.MethodName) prog_1_method_3_code (5 : Nat) (Option.some Jvm.ClassFile.FieldType.int)) ∈ gT := gT_in 328 (by decide +kernel) (by decide +kernel)
set_option maxRecDepth 20000 in
theorem tM_X11_79 : (Jvm.Cond.methodLink "YesterdayScale" (79 : Nat) ({ cls := "YesterdayScale$Row", name := "cut", desc := "(I)I" } : Jvm.MethodName)) ∈ gT := gT_in 329 (by decide +kernel) (by decide +kernel)
set_option maxRecDepth 20000 in
theorem tI_X3_cut : (Jvm.Cond.instanceMethod ({ cls := "YesterdayScale$Row", name := "cut", desc := "(I)I" } : Jvm.MethodName)) ∈ gT := gT_in 330 (by decide +kernel) (by decide +kernel)
set_option maxRecDepth 20000 in
theorem tSel_X3_X3_X3_cut : (Jvm.Cond.selects "YesterdayScale$Row" ({ cls := "YesterdayScale$Row", name := "cut", desc := "(I)I" } : Jvm.MethodName) ({ cls := "YesterdayScale$Row", name := "cut", desc := "(I)I" } : Jvm.MethodName)) ∈ gT := gT_in 331 (by decide +kernel) (by decide +kernel)
set_option maxRecDepth 20000 in
theorem tY_X3_cut : (Jvm.Cond.code ({ cls := "YesterdayScale$Row", name := "cut", desc := "(I)I" } : Jvm.MethodName) prog_5_method_3_code (2 : Nat) (Option.some Jvm.ClassFile.FieldType.int)) ∈ gT := gT_in 332 (by decide +kernel) (by decide +kernel)
set_option maxRecDepth 20000 in
theorem tM_L_22 : (Jvm.Cond.methodLink "YesterdayScaleLaw" (22 : Nat) ({ cls := "YesterdayScale", name := "copy", desc := "(IIIII)I" } : Jvm.MethodName)) ∈ gT := gT_in 333 (by decide +kernel) (by decide +kernel)
set_option maxRecDepth 20000 in
theorem tI_X11_copy : (Jvm.Cond.instanceMethod ({ cls := "YesterdayScale", name := "copy", desc := "(IIIII)I" } : Jvm.MethodName)) ∈ gT := gT_in 334 (by decide +kernel) (by decide +kernel)
set_option maxRecDepth 20000 in
theorem tSel_X11_X11_X11_copy : (Jvm.Cond.selects "YesterdayScale" ({ cls := "YesterdayScale", name := "copy", desc := "(IIIII)I" } : Jvm.MethodName) ({ cls := "YesterdayScale", name := "copy", desc := "(IIIII)I" } : Jvm.MethodName)) ∈ gT := gT_in 335 (by decide +kernel) (by decide +kernel)
set_option maxRecDepth 20000 in
theorem tY_X11_copy : (Jvm.Cond.code ({ cls := "YesterdayScale", name := "copy", desc := "(IIIII)I" } : Jvm.MethodName) prog_1_method_4_code (8 : Nat) (Option.some Jvm.ClassFile.FieldType.int)) ∈ gT := gT_in 336 (by decide +kernel) (by decide +kernel)
set_option maxRecDepth 20000 in
theorem tM_X11_85 : (Jvm.Cond.methodLink "YesterdayScale" (85 : Nat) ({ cls := "YesterdayScale$Row", name := "hasPlaces", desc := "(II)Z" } : Jvm.MethodName)) ∈ gT := gT_in 337 (by decide +kernel) (by decide +kernel)
set_option maxRecDepth 20000 in
theorem tI_X3_hasPlaces : (Jvm.Cond.instanceMethod ({ cls := "YesterdayScale$Row", name := "hasPlaces", desc := "(II)Z" } : Jvm.MethodName)) ∈ gT := gT_in 338 (by decide +kernel) (by decide +kernel)
set_option maxRecDepth 20000 in
theorem tSel_X3_X3_X3_hasPlaces : (Jvm.Cond.selects "YesterdayScale$Row" ({ cls := "YesterdayScale$Row", name := "hasPlaces", desc := "(II)Z" } : Jvm.MethodName) ({ cls := "YesterdayScale$Row", name := "hasPlaces", desc := "(II)Z" } : Jvm.MethodName)) ∈ gT := gT_in 339 (by decide +kernel) (by decide +kernel)
set_option maxRecDepth 20000 in
theorem tY_X3_hasPlaces : (Jvm.Cond.code ({ cls := "YesterdayScale$Row", name := "hasPlaces", desc := "(II)Z" } : Jvm.MethodName) prog_5_method_4_code (3 : Nat) (Option.some Jvm.ClassFile.FieldType.boolean)) ∈ gT := gT_in 340 (by decide +kernel) (by decide +kernel)
set_option maxRecDepth 20000 in
theorem tM_X11_89 : (Jvm.Cond.methodLink "YesterdayScale" (89 : Nat) ({ cls := "java/lang/System", name := "arraycopy", desc := "(Ljava/lang/Object;ILjava/lang/Object;II)V" } : Jvm.MethodName)) ∈ gT := gT_in 341 (by decide +kernel) (by decide +kernel)
set_option maxRecDepth 20000 in
theorem tS_acopy : (Jvm.Cond.static ({ cls := "java/lang/System", name := "arraycopy", desc := "(Ljava/lang/Object;ILjava/lang/Object;II)V" } : Jvm.MethodName)) ∈ gT := gT_in 342 (by decide +kernel) (by decide +kernel)
set_option maxRecDepth 20000 in
theorem tNat_acopy : (Jvm.Cond.native ({ cls := "java/lang/System", name := "arraycopy", desc := "(Ljava/lang/Object;ILjava/lang/Object;II)V" } : Jvm.MethodName)) ∈ gT := gT_in 343 (by decide +kernel) (by decide +kernel)
set_option maxRecDepth 20000 in
theorem tM_L_27 : (Jvm.Cond.methodLink "YesterdayScaleLaw" (27 : Nat) ({ cls := "YesterdayScale", name := "drop", desc := "(I)I" } : Jvm.MethodName)) ∈ gT := gT_in 344 (by decide +kernel) (by decide +kernel)
set_option maxRecDepth 20000 in
theorem tI_X11_drop : (Jvm.Cond.instanceMethod ({ cls := "YesterdayScale", name := "drop", desc := "(I)I" } : Jvm.MethodName)) ∈ gT := gT_in 345 (by decide +kernel) (by decide +kernel)
set_option maxRecDepth 20000 in
theorem tSel_X11_X11_X11_drop : (Jvm.Cond.selects "YesterdayScale" ({ cls := "YesterdayScale", name := "drop", desc := "(I)I" } : Jvm.MethodName) ({ cls := "YesterdayScale", name := "drop", desc := "(I)I" } : Jvm.MethodName)) ∈ gT := gT_in 346 (by decide +kernel) (by decide +kernel)
set_option maxRecDepth 20000 in
theorem tY_X11_drop : (Jvm.Cond.code ({ cls := "YesterdayScale", name := "drop", desc := "(I)I" } : Jvm.MethodName) prog_1_method_5_code (2 : Nat) (Option.some Jvm.ClassFile.FieldType.int)) ∈ gT := gT_in 347 (by decide +kernel) (by decide +kernel)
set_option maxRecDepth 20000 in
theorem tM_L_34 : (Jvm.Cond.methodLink "YesterdayScaleLaw" (34 : Nat) ({ cls := "YesterdayScale", name := "feed", desc := "(JI)I" } : Jvm.MethodName)) ∈ gT := gT_in 348 (by decide +kernel) (by decide +kernel)
set_option maxRecDepth 20000 in
theorem tI_X11_feed : (Jvm.Cond.instanceMethod ({ cls := "YesterdayScale", name := "feed", desc := "(JI)I" } : Jvm.MethodName)) ∈ gT := gT_in 349 (by decide +kernel) (by decide +kernel)
set_option maxRecDepth 20000 in
theorem tSel_X11_X11_X11_feed : (Jvm.Cond.selects "YesterdayScale" ({ cls := "YesterdayScale", name := "feed", desc := "(JI)I" } : Jvm.MethodName) ({ cls := "YesterdayScale", name := "feed", desc := "(JI)I" } : Jvm.MethodName)) ∈ gT := gT_in 350 (by decide +kernel) (by decide +kernel)
set_option maxRecDepth 20000 in
theorem tY_X11_feed : (Jvm.Cond.code ({ cls := "YesterdayScale", name := "feed", desc := "(JI)I" } : Jvm.MethodName) prog_1_method_6_code (4 : Nat) (Option.some Jvm.ClassFile.FieldType.int)) ∈ gT := gT_in 351 (by decide +kernel) (by decide +kernel)
set_option maxRecDepth 20000 in
theorem tM_X11_95 : (Jvm.Cond.methodLink "YesterdayScale" (95 : Nat) ({ cls := "YesterdayScale$Tape", name := "hasRoom", desc := "(I)Z" } : Jvm.MethodName)) ∈ gT := gT_in 352 (by decide +kernel) (by decide +kernel)
set_option maxRecDepth 20000 in
theorem tI_X6_hasRoom : (Jvm.Cond.instanceMethod ({ cls := "YesterdayScale$Tape", name := "hasRoom", desc := "(I)Z" } : Jvm.MethodName)) ∈ gT := gT_in 353 (by decide +kernel) (by decide +kernel)
set_option maxRecDepth 20000 in
theorem tSel_X6_X6_X6_hasRoom : (Jvm.Cond.selects "YesterdayScale$Tape" ({ cls := "YesterdayScale$Tape", name := "hasRoom", desc := "(I)Z" } : Jvm.MethodName) ({ cls := "YesterdayScale$Tape", name := "hasRoom", desc := "(I)Z" } : Jvm.MethodName)) ∈ gT := gT_in 354 (by decide +kernel) (by decide +kernel)
set_option maxRecDepth 20000 in
theorem tY_X6_hasRoom : (Jvm.Cond.code ({ cls := "YesterdayScale$Tape", name := "hasRoom", desc := "(I)Z" } : Jvm.MethodName) prog_8_method_2_code (2 : Nat) (Option.some Jvm.ClassFile.FieldType.boolean)) ∈ gT := gT_in 355 (by decide +kernel) (by decide +kernel)
set_option maxRecDepth 20000 in
theorem tM_X11_98 : (Jvm.Cond.methodLink "YesterdayScale" (98 : Nat) ({ cls := "YesterdayScale$Tape", name := "append", desc := "(JI)I" } : Jvm.MethodName)) ∈ gT := gT_in 356 (by decide +kernel) (by decide +kernel)
set_option maxRecDepth 20000 in
theorem tI_X6_append : (Jvm.Cond.instanceMethod ({ cls := "YesterdayScale$Tape", name := "append", desc := "(JI)I" } : Jvm.MethodName)) ∈ gT := gT_in 357 (by decide +kernel) (by decide +kernel)
set_option maxRecDepth 20000 in
theorem tSel_X6_X6_X6_append : (Jvm.Cond.selects "YesterdayScale$Tape" ({ cls := "YesterdayScale$Tape", name := "append", desc := "(JI)I" } : Jvm.MethodName) ({ cls := "YesterdayScale$Tape", name := "append", desc := "(JI)I" } : Jvm.MethodName)) ∈ gT := gT_in 358 (by decide +kernel) (by decide +kernel)
set_option maxRecDepth 20000 in
theorem tY_X6_append : (Jvm.Cond.code ({ cls := "YesterdayScale$Tape", name := "append", desc := "(JI)I" } : Jvm.MethodName) prog_8_method_3_code (5 : Nat) (Option.some Jvm.ClassFile.FieldType.int)) ∈ gT := gT_in 359 (by decide +kernel) (by decide +kernel)
set_option maxRecDepth 20000 in
theorem tK_X11_102 : (Jvm.Cond.constant "YesterdayScale" (102 : Nat) (-1000003 : Int32)) ∈ gT := gT_in 360 (by decide +kernel) (by decide +kernel)
set_option maxRecDepth 20000 in
theorem tM_L_39 : (Jvm.Cond.methodLink "YesterdayScaleLaw" (39 : Nat) ({ cls := "YesterdayScale", name := "port", desc := "()I" } : Jvm.MethodName)) ∈ gT := gT_in 361 (by decide +kernel) (by decide +kernel)
set_option maxRecDepth 20000 in
theorem tI_X11_port : (Jvm.Cond.instanceMethod ({ cls := "YesterdayScale", name := "port", desc := "()I" } : Jvm.MethodName)) ∈ gT := gT_in 362 (by decide +kernel) (by decide +kernel)
set_option maxRecDepth 20000 in
theorem tSel_X11_X11_X11_port : (Jvm.Cond.selects "YesterdayScale" ({ cls := "YesterdayScale", name := "port", desc := "()I" } : Jvm.MethodName) ({ cls := "YesterdayScale", name := "port", desc := "()I" } : Jvm.MethodName)) ∈ gT := gT_in 363 (by decide +kernel) (by decide +kernel)
set_option maxRecDepth 20000 in
theorem tY_X11_port : (Jvm.Cond.code ({ cls := "YesterdayScale", name := "port", desc := "()I" } : Jvm.MethodName) prog_1_method_7_code (1 : Nat) (Option.some Jvm.ClassFile.FieldType.int)) ∈ gT := gT_in 364 (by decide +kernel) (by decide +kernel)
set_option maxRecDepth 20000 in
theorem tM_X11_103 : (Jvm.Cond.methodLink "YesterdayScale" (103 : Nat) ({ cls := "YesterdayScale$Tape", name := "readInto", desc := "(LYesterdayScale$Port;)Z" } : Jvm.MethodName)) ∈ gT := gT_in 365 (by decide +kernel) (by decide +kernel)
set_option maxRecDepth 20000 in
theorem tI_X6_readInto : (Jvm.Cond.instanceMethod ({ cls := "YesterdayScale$Tape", name := "readInto", desc := "(LYesterdayScale$Port;)Z" } : Jvm.MethodName)) ∈ gT := gT_in 366 (by decide +kernel) (by decide +kernel)
set_option maxRecDepth 20000 in
theorem tSel_X6_X6_X6_readInto : (Jvm.Cond.selects "YesterdayScale$Tape" ({ cls := "YesterdayScale$Tape", name := "readInto", desc := "(LYesterdayScale$Port;)Z" } : Jvm.MethodName) ({ cls := "YesterdayScale$Tape", name := "readInto", desc := "(LYesterdayScale$Port;)Z" } : Jvm.MethodName)) ∈ gT := gT_in 367 (by decide +kernel) (by decide +kernel)
set_option maxRecDepth 20000 in
theorem tY_X6_readInto : (Jvm.Cond.code ({ cls := "YesterdayScale$Tape", name := "readInto", desc := "(LYesterdayScale$Port;)Z" } : Jvm.MethodName) prog_8_method_4_code (3 : Nat) (Option.some Jvm.ClassFile.FieldType.boolean)) ∈ gT := gT_in 368 (by decide +kernel) (by decide +kernel)
set_option maxRecDepth 20000 in
theorem tM_X6_19 : (Jvm.Cond.methodLink "YesterdayScale$Tape" (19 : Nat) ({ cls := "YesterdayScale$Port", name := "clear", desc := "()V" } : Jvm.MethodName)) ∈ gT := gT_in 369 (by decide +kernel) (by decide +kernel)
set_option maxRecDepth 20000 in
theorem tI_X2_clear : (Jvm.Cond.instanceMethod ({ cls := "YesterdayScale$Port", name := "clear", desc := "()V" } : Jvm.MethodName)) ∈ gT := gT_in 370 (by decide +kernel) (by decide +kernel)
set_option maxRecDepth 20000 in
theorem tSel_X2_X2_X2_clear : (Jvm.Cond.selects "YesterdayScale$Port" ({ cls := "YesterdayScale$Port", name := "clear", desc := "()V" } : Jvm.MethodName) ({ cls := "YesterdayScale$Port", name := "clear", desc := "()V" } : Jvm.MethodName)) ∈ gT := gT_in 371 (by decide +kernel) (by decide +kernel)
set_option maxRecDepth 20000 in
theorem tY_X2_clear : (Jvm.Cond.code ({ cls := "YesterdayScale$Port", name := "clear", desc := "()V" } : Jvm.MethodName) prog_4_method_2_code (1 : Nat) (Option.none : Option Jvm.ClassFile.FieldType)) ∈ gT := gT_in 372 (by decide +kernel) (by decide +kernel)
set_option maxRecDepth 20000 in
theorem tM_X6_27 : (Jvm.Cond.methodLink "YesterdayScale$Tape" (27 : Nat) ({ cls := "YesterdayScale$Tape", name := "advance", desc := "()V" } : Jvm.MethodName)) ∈ gT := gT_in 373 (by decide +kernel) (by decide +kernel)
set_option maxRecDepth 20000 in
theorem tI_X6_advance : (Jvm.Cond.instanceMethod ({ cls := "YesterdayScale$Tape", name := "advance", desc := "()V" } : Jvm.MethodName)) ∈ gT := gT_in 375 (by decide +kernel) (by decide +kernel)
set_option maxRecDepth 20000 in
theorem tY_X6_advance : (Jvm.Cond.code ({ cls := "YesterdayScale$Tape", name := "advance", desc := "()V" } : Jvm.MethodName) prog_8_method_17_code (1 : Nat) (Option.none : Option Jvm.ClassFile.FieldType)) ∈ gT := gT_in 376 (by decide +kernel) (by decide +kernel)
set_option maxRecDepth 20000 in
theorem tM_X6_145 : (Jvm.Cond.methodLink "YesterdayScale$Tape" (145 : Nat) ({ cls := "YesterdayScale$Tape", name := "isBetween", desc := "(I)Z" } : Jvm.MethodName)) ∈ gT := gT_in 377 (by decide +kernel) (by decide +kernel)
set_option maxRecDepth 20000 in
theorem tS_X6_isBetween : (Jvm.Cond.static ({ cls := "YesterdayScale$Tape", name := "isBetween", desc := "(I)Z" } : Jvm.MethodName)) ∈ gT := gT_in 378 (by decide +kernel) (by decide +kernel)
set_option maxRecDepth 20000 in
theorem tY_X6_isBetween : (Jvm.Cond.code ({ cls := "YesterdayScale$Tape", name := "isBetween", desc := "(I)Z" } : Jvm.MethodName) prog_8_method_18_code (1 : Nat) (Option.some Jvm.ClassFile.FieldType.boolean)) ∈ gT := gT_in 379 (by decide +kernel) (by decide +kernel)
set_option maxRecDepth 20000 in
theorem tM_X6_148 : (Jvm.Cond.methodLink "YesterdayScale$Tape" (148 : Nat) ({ cls := "YesterdayScale$Tape", name := "isLetter", desc := "(I)Z" } : Jvm.MethodName)) ∈ gT := gT_in 380 (by decide +kernel) (by decide +kernel)
set_option maxRecDepth 20000 in
theorem tS_X6_isLetter : (Jvm.Cond.static ({ cls := "YesterdayScale$Tape", name := "isLetter", desc := "(I)Z" } : Jvm.MethodName)) ∈ gT := gT_in 381 (by decide +kernel) (by decide +kernel)
set_option maxRecDepth 20000 in
theorem tY_X6_isLetter : (Jvm.Cond.code ({ cls := "YesterdayScale$Tape", name := "isLetter", desc := "(I)Z" } : Jvm.MethodName) prog_8_method_19_code (1 : Nat) (Option.some Jvm.ClassFile.FieldType.boolean)) ∈ gT := gT_in 382 (by decide +kernel) (by decide +kernel)
set_option maxRecDepth 20000 in
theorem tM_X6_151 : (Jvm.Cond.methodLink "YesterdayScale$Tape" (151 : Nat) ({ cls := "YesterdayScale$Tape", name := "isFigure", desc := "(I)Z" } : Jvm.MethodName)) ∈ gT := gT_in 383 (by decide +kernel) (by decide +kernel)
set_option maxRecDepth 20000 in
theorem tS_X6_isFigure : (Jvm.Cond.static ({ cls := "YesterdayScale$Tape", name := "isFigure", desc := "(I)Z" } : Jvm.MethodName)) ∈ gT := gT_in 384 (by decide +kernel) (by decide +kernel)
set_option maxRecDepth 20000 in
theorem tY_X6_isFigure : (Jvm.Cond.code ({ cls := "YesterdayScale$Tape", name := "isFigure", desc := "(I)Z" } : Jvm.MethodName) prog_8_method_20_code (1 : Nat) (Option.some Jvm.ClassFile.FieldType.boolean)) ∈ gT := gT_in 385 (by decide +kernel) (by decide +kernel)
set_option maxRecDepth 20000 in
theorem tM_X6_30 : (Jvm.Cond.methodLink "YesterdayScale$Tape" (30 : Nat) ({ cls := "YesterdayScale$Tape", name := "readLaw", desc := "(LYesterdayScale$Port;)Z" } : Jvm.MethodName)) ∈ gT := gT_in 386 (by decide +kernel) (by decide +kernel)
set_option maxRecDepth 20000 in
theorem tI_X6_readLaw : (Jvm.Cond.instanceMethod ({ cls := "YesterdayScale$Tape", name := "readLaw", desc := "(LYesterdayScale$Port;)Z" } : Jvm.MethodName)) ∈ gT := gT_in 388 (by decide +kernel) (by decide +kernel)
set_option maxRecDepth 20000 in
theorem tY_X6_readLaw : (Jvm.Cond.code ({ cls := "YesterdayScale$Tape", name := "readLaw", desc := "(LYesterdayScale$Port;)Z" } : Jvm.MethodName) prog_8_method_5_code (2 : Nat) (Option.some Jvm.ClassFile.FieldType.boolean)) ∈ gT := gT_in 389 (by decide +kernel) (by decide +kernel)
set_option maxRecDepth 20000 in
theorem tM_X6_50 : (Jvm.Cond.methodLink "YesterdayScale$Tape" (50 : Nat) ({ cls := "YesterdayScale$Tape", name := "takeWord", desc := "(Ljava/lang/String;)Z" } : Jvm.MethodName)) ∈ gT := gT_in 391 (by decide +kernel) (by decide +kernel)
set_option maxRecDepth 20000 in
theorem tI_X6_takeWord : (Jvm.Cond.instanceMethod ({ cls := "YesterdayScale$Tape", name := "takeWord", desc := "(Ljava/lang/String;)Z" } : Jvm.MethodName)) ∈ gT := gT_in 393 (by decide +kernel) (by decide +kernel)
set_option maxRecDepth 20000 in
theorem tY_X6_takeWord : (Jvm.Cond.code ({ cls := "YesterdayScale$Tape", name := "takeWord", desc := "(Ljava/lang/String;)Z" } : Jvm.MethodName) prog_8_method_11_code (2 : Nat) (Option.some Jvm.ClassFile.FieldType.boolean)) ∈ gT := gT_in 394 (by decide +kernel) (by decide +kernel)
set_option maxRecDepth 20000 in
theorem tM_X6_75 : (Jvm.Cond.methodLink "YesterdayScale$Tape" (75 : Nat) ({ cls := "YesterdayScale$Tape", name := "isWord", desc := "(Ljava/lang/String;)Z" } : Jvm.MethodName)) ∈ gT := gT_in 395 (by decide +kernel) (by decide +kernel)
set_option maxRecDepth 20000 in
theorem tI_X6_isWord : (Jvm.Cond.instanceMethod ({ cls := "YesterdayScale$Tape", name := "isWord", desc := "(Ljava/lang/String;)Z" } : Jvm.MethodName)) ∈ gT := gT_in 397 (by decide +kernel) (by decide +kernel)
set_option maxRecDepth 20000 in
theorem tY_X6_isWord : (Jvm.Cond.code ({ cls := "YesterdayScale$Tape", name := "isWord", desc := "(Ljava/lang/String;)Z" } : Jvm.MethodName) prog_8_method_15_code (3 : Nat) (Option.some Jvm.ClassFile.FieldType.boolean)) ∈ gT := gT_in 398 (by decide +kernel) (by decide +kernel)
set_option maxRecDepth 20000 in
theorem tM_X6_137 : (Jvm.Cond.methodLink "YesterdayScale$Tape" (137 : Nat) ({ cls := "java/lang/String", name := "length", desc := "()I" } : Jvm.MethodName)) ∈ gT := gT_in 399 (by decide +kernel) (by decide +kernel)
set_option maxRecDepth 20000 in
theorem tI_J0_length_8abf5 : (Jvm.Cond.instanceMethod ({ cls := "java/lang/String", name := "length", desc := "()I" } : Jvm.MethodName)) ∈ gT := gT_in 400 (by decide +kernel) (by decide +kernel)
set_option maxRecDepth 20000 in
theorem tSel_J0_J0_J0_length_8abf5 : (Jvm.Cond.selects "java/lang/String" ({ cls := "java/lang/String", name := "length", desc := "()I" } : Jvm.MethodName) ({ cls := "java/lang/String", name := "length", desc := "()I" } : Jvm.MethodName)) ∈ gT := gT_in 401 (by decide +kernel) (by decide +kernel)
set_option maxRecDepth 20000 in
theorem tY_J0_length_8abf5 : (Jvm.Cond.code ({ cls := "java/lang/String", name := "length", desc := "()I" } : Jvm.MethodName) prog_17_method_54_code (1 : Nat) (Option.some Jvm.ClassFile.FieldType.int)) ∈ gT := gT_in 402 (by decide +kernel) (by decide +kernel)
set_option maxRecDepth 20000 in
theorem tM_J0_335 : (Jvm.Cond.methodLink "java/lang/String" (335 : Nat) ({ cls := "java/lang/String", name := "coder", desc := "()B" } : Jvm.MethodName)) ∈ gT := gT_in 403 (by decide +kernel) (by decide +kernel)
set_option maxRecDepth 20000 in
theorem tI_J0_coder_7d493 : (Jvm.Cond.instanceMethod ({ cls := "java/lang/String", name := "coder", desc := "()B" } : Jvm.MethodName)) ∈ gT := gT_in 404 (by decide +kernel) (by decide +kernel)
set_option maxRecDepth 20000 in
theorem tSel_J0_J0_J0_coder_7d493 : (Jvm.Cond.selects "java/lang/String" ({ cls := "java/lang/String", name := "coder", desc := "()B" } : Jvm.MethodName) ({ cls := "java/lang/String", name := "coder", desc := "()B" } : Jvm.MethodName)) ∈ gT := gT_in 405 (by decide +kernel) (by decide +kernel)
set_option maxRecDepth 20000 in
theorem tY_J0_coder_7d493 : (Jvm.Cond.code ({ cls := "java/lang/String", name := "coder", desc := "()B" } : Jvm.MethodName) prog_17_method_152_code (1 : Nat) (Option.some Jvm.ClassFile.FieldType.byte)) ∈ gT := gT_in 406 (by decide +kernel) (by decide +kernel)
set_option maxRecDepth 20000 in
theorem tF_J0_38 : (Jvm.Cond.fieldLink "java/lang/String" (38 : Nat) "java/lang/String" "COMPACT_STRINGS" "Z") ∈ gT := gT_in 407 (by decide +kernel) (by decide +kernel)
set_option maxRecDepth 20000 in
theorem tM_X6_141 : (Jvm.Cond.methodLink "YesterdayScale$Tape" (141 : Nat) ({ cls := "java/lang/String", name := "charAt", desc := "(I)C" } : Jvm.MethodName)) ∈ gT := gT_in 409 (by decide +kernel) (by decide +kernel)
set_option maxRecDepth 20000 in
theorem tI_J0_charAt_5068e : (Jvm.Cond.instanceMethod ({ cls := "java/lang/String", name := "charAt", desc := "(I)C" } : Jvm.MethodName)) ∈ gT := gT_in 410 (by decide +kernel) (by decide +kernel)
set_option maxRecDepth 20000 in
theorem tSel_J0_J0_J0_charAt_5068e : (Jvm.Cond.selects "java/lang/String" ({ cls := "java/lang/String", name := "charAt", desc := "(I)C" } : Jvm.MethodName) ({ cls := "java/lang/String", name := "charAt", desc := "(I)C" } : Jvm.MethodName)) ∈ gT := gT_in 411 (by decide +kernel) (by decide +kernel)
set_option maxRecDepth 20000 in
theorem tY_J0_charAt_5068e : (Jvm.Cond.code ({ cls := "java/lang/String", name := "charAt", desc := "(I)C" } : Jvm.MethodName) prog_17_method_56_code (2 : Nat) (Option.some Jvm.ClassFile.FieldType.char)) ∈ gT := gT_in 412 (by decide +kernel) (by decide +kernel)
set_option maxRecDepth 20000 in
theorem tM_J0_492 : (Jvm.Cond.methodLink "java/lang/String" (492 : Nat) ({ cls := "java/lang/String", name := "isLatin1", desc := "()Z" } : Jvm.MethodName)) ∈ gT := gT_in 413 (by decide +kernel) (by decide +kernel)
set_option maxRecDepth 20000 in
theorem tI_J0_isLatin1_aae02 : (Jvm.Cond.instanceMethod ({ cls := "java/lang/String", name := "isLatin1", desc := "()Z" } : Jvm.MethodName)) ∈ gT := gT_in 414 (by decide +kernel) (by decide +kernel)
set_option maxRecDepth 20000 in
theorem tSel_J0_J0_J0_isLatin1_aae02 : (Jvm.Cond.selects "java/lang/String" ({ cls := "java/lang/String", name := "isLatin1", desc := "()Z" } : Jvm.MethodName) ({ cls := "java/lang/String", name := "isLatin1", desc := "()Z" } : Jvm.MethodName)) ∈ gT := gT_in 415 (by decide +kernel) (by decide +kernel)
set_option maxRecDepth 20000 in
theorem tY_J0_isLatin1_aae02 : (Jvm.Cond.code ({ cls := "java/lang/String", name := "isLatin1", desc := "()Z" } : Jvm.MethodName) prog_17_method_154_code (1 : Nat) (Option.some Jvm.ClassFile.FieldType.boolean)) ∈ gT := gT_in 416 (by decide +kernel) (by decide +kernel)
set_option maxRecDepth 20000 in
theorem tM_J0_495 : (Jvm.Cond.methodLink "java/lang/String" (495 : Nat) ({ cls := "java/lang/StringLatin1", name := "charAt", desc := "([BI)C" } : Jvm.MethodName)) ∈ gT := gT_in 417 (by decide +kernel) (by decide +kernel)
set_option maxRecDepth 20000 in
theorem tS_J1_charAt_3b067 : (Jvm.Cond.static ({ cls := "java/lang/StringLatin1", name := "charAt", desc := "([BI)C" } : Jvm.MethodName)) ∈ gT := gT_in 418 (by decide +kernel) (by decide +kernel)
set_option maxRecDepth 20000 in
theorem tY_J1_charAt_3b067 : (Jvm.Cond.code ({ cls := "java/lang/StringLatin1", name := "charAt", desc := "([BI)C" } : Jvm.MethodName) prog_18_method_2_code (2 : Nat) (Option.some Jvm.ClassFile.FieldType.char)) ∈ gT := gT_in 419 (by decide +kernel) (by decide +kernel)
set_option maxRecDepth 20000 in
theorem tM_J1_9 : (Jvm.Cond.methodLink "java/lang/StringLatin1" (9 : Nat) ({ cls := "java/lang/String", name := "checkIndex", desc := "(II)V" } : Jvm.MethodName)) ∈ gT := gT_in 420 (by decide +kernel) (by decide +kernel)
set_option maxRecDepth 20000 in
theorem tS_J0_checkIndex_df160 : (Jvm.Cond.static ({ cls := "java/lang/String", name := "checkIndex", desc := "(II)V" } : Jvm.MethodName)) ∈ gT := gT_in 421 (by decide +kernel) (by decide +kernel)
set_option maxRecDepth 20000 in
theorem tY_J0_checkIndex_df160 : (Jvm.Cond.code ({ cls := "java/lang/String", name := "checkIndex", desc := "(II)V" } : Jvm.MethodName) prog_17_method_155_code (2 : Nat) (Option.none : Option Jvm.ClassFile.FieldType)) ∈ gT := gT_in 422 (by decide +kernel) (by decide +kernel)
set_option maxRecDepth 20000 in
theorem tF_J0_1053 : (Jvm.Cond.fieldLink "java/lang/String" (1053 : Nat) "jdk/internal/util/Preconditions" "SIOOBE_FORMATTER" "Ljava/util/function/BiFunction;") ∈ gT := gT_in 423 (by decide +kernel) (by decide +kernel)
set_option maxRecDepth 20000 in
theorem tM_J0_1059 : (Jvm.Cond.methodLink "java/lang/String" (1059 : Nat) ({ cls := "jdk/internal/util/Preconditions", name := "checkIndex", desc := "(IILjava/util/function/BiFunction;)I" } : Jvm.MethodName)) ∈ gT := gT_in 425 (by decide +kernel) (by decide +kernel)
set_option maxRecDepth 20000 in
theorem tS_J3_checkIndex_8e157 : (Jvm.Cond.static ({ cls := "jdk/internal/util/Preconditions", name := "checkIndex", desc := "(IILjava/util/function/BiFunction;)I" } : Jvm.MethodName)) ∈ gT := gT_in 426 (by decide +kernel) (by decide +kernel)
set_option maxRecDepth 20000 in
theorem tY_J3_checkIndex_8e157 : (Jvm.Cond.code ({ cls := "jdk/internal/util/Preconditions", name := "checkIndex", desc := "(IILjava/util/function/BiFunction;)I" } : Jvm.MethodName) prog_21_method_11_code (3 : Nat) (Option.some Jvm.ClassFile.FieldType.int)) ∈ gT := gT_in 427 (by decide +kernel) (by decide +kernel)
set_option maxRecDepth 20000 in
theorem tM_J0_498 : (Jvm.Cond.methodLink "java/lang/String" (498 : Nat) ({ cls := "java/lang/StringUTF16", name := "charAt", desc := "([BI)C" } : Jvm.MethodName)) ∈ gT := gT_in 428 (by decide +kernel) (by decide +kernel)
set_option maxRecDepth 20000 in
theorem tS_J2_charAt_3b067 : (Jvm.Cond.static ({ cls := "java/lang/StringUTF16", name := "charAt", desc := "([BI)C" } : Jvm.MethodName)) ∈ gT := gT_in 429 (by decide +kernel) (by decide +kernel)
set_option maxRecDepth 20000 in
theorem tY_J2_charAt_3b067 : (Jvm.Cond.code ({ cls := "java/lang/StringUTF16", name := "charAt", desc := "([BI)C" } : Jvm.MethodName) prog_19_method_83_code (2 : Nat) (Option.some Jvm.ClassFile.FieldType.char)) ∈ gT := gT_in 430 (by decide +kernel) (by decide +kernel)
set_option maxRecDepth 20000 in
theorem tM_J2_67 : (Jvm.Cond.methodLink "java/lang/StringUTF16" (67 : Nat) ({ cls := "java/lang/StringUTF16", name := "checkIndex", desc := "(I[B)V" } : Jvm.MethodName)) ∈ gT := gT_in 431 (by decide +kernel) (by decide +kernel)
set_option maxRecDepth 20000 in
theorem tS_J2_checkIndex_2214a : (Jvm.Cond.static ({ cls := "java/lang/StringUTF16", name := "checkIndex", desc := "(I[B)V" } : Jvm.MethodName)) ∈ gT := gT_in 432 (by decide +kernel) (by decide +kernel)
set_option maxRecDepth 20000 in
theorem tY_J2_checkIndex_2214a : (Jvm.Cond.code ({ cls := "java/lang/StringUTF16", name := "checkIndex", desc := "(I[B)V" } : Jvm.MethodName) prog_19_method_91_code (2 : Nat) (Option.none : Option Jvm.ClassFile.FieldType)) ∈ gT := gT_in 433 (by decide +kernel) (by decide +kernel)
set_option maxRecDepth 20000 in
theorem tM_J2_48 : (Jvm.Cond.methodLink "java/lang/StringUTF16" (48 : Nat) ({ cls := "java/lang/StringUTF16", name := "length", desc := "([B)I" } : Jvm.MethodName)) ∈ gT := gT_in 434 (by decide +kernel) (by decide +kernel)
set_option maxRecDepth 20000 in
theorem tS_J2_length_9d52b : (Jvm.Cond.static ({ cls := "java/lang/StringUTF16", name := "length", desc := "([B)I" } : Jvm.MethodName)) ∈ gT := gT_in 435 (by decide +kernel) (by decide +kernel)
set_option maxRecDepth 20000 in
theorem tY_J2_length_9d52b : (Jvm.Cond.code ({ cls := "java/lang/StringUTF16", name := "length", desc := "([B)I" } : Jvm.MethodName) prog_19_method_6_code (1 : Nat) (Option.some Jvm.ClassFile.FieldType.int)) ∈ gT := gT_in 436 (by decide +kernel) (by decide +kernel)
set_option maxRecDepth 20000 in
theorem tM_J2_414 : (Jvm.Cond.methodLink "java/lang/StringUTF16" (414 : Nat) ({ cls := "java/lang/String", name := "checkIndex", desc := "(II)V" } : Jvm.MethodName)) ∈ gT := gT_in 437 (by decide +kernel) (by decide +kernel)
set_option maxRecDepth 20000 in
theorem tM_J2_71 : (Jvm.Cond.methodLink "java/lang/StringUTF16" (71 : Nat) ({ cls := "java/lang/StringUTF16", name := "getChar", desc := "([BI)C" } : Jvm.MethodName)) ∈ gT := gT_in 438 (by decide +kernel) (by decide +kernel)
set_option maxRecDepth 20000 in
theorem tS_J2_getChar_3b067 : (Jvm.Cond.static ({ cls := "java/lang/StringUTF16", name := "getChar", desc := "([BI)C" } : Jvm.MethodName)) ∈ gT := gT_in 439 (by decide +kernel) (by decide +kernel)
set_option maxRecDepth 20000 in
theorem tY_J2_getChar_3b067 : (Jvm.Cond.code ({ cls := "java/lang/StringUTF16", name := "getChar", desc := "([BI)C" } : Jvm.MethodName) prog_19_method_5_code (2 : Nat) (Option.some Jvm.ClassFile.FieldType.char)) ∈ gT := gT_in 440 (by decide +kernel) (by decide +kernel)
set_option maxRecDepth 20000 in
theorem tF_J2_44 : (Jvm.Cond.fieldLink "java/lang/StringUTF16" (44 : Nat) "java/lang/StringUTF16" "$assertionsDisabled" "Z") ∈ gT := gT_in 441 (by decide +kernel) (by decide +kernel)
set_option maxRecDepth 20000 in
theorem tF_J2_59 : (Jvm.Cond.fieldLink "java/lang/StringUTF16" (59 : Nat) "java/lang/StringUTF16" "HI_BYTE_SHIFT" "I") ∈ gT := gT_in 443 (by decide +kernel) (by decide +kernel)
set_option maxRecDepth 20000 in
theorem tF_J2_63 : (Jvm.Cond.fieldLink "java/lang/StringUTF16" (63 : Nat) "java/lang/StringUTF16" "LO_BYTE_SHIFT" "I") ∈ gT := gT_in 445 (by decide +kernel) (by decide +kernel)
set_option maxRecDepth 20000 in
theorem tM_X6_78 : (Jvm.Cond.methodLink "YesterdayScale$Tape" (78 : Nat) ({ cls := "YesterdayScale$Tape", name := "fail", desc := "(I)Z" } : Jvm.MethodName)) ∈ gT := gT_in 447 (by decide +kernel) (by decide +kernel)
set_option maxRecDepth 20000 in
theorem tI_X6_fail : (Jvm.Cond.instanceMethod ({ cls := "YesterdayScale$Tape", name := "fail", desc := "(I)Z" } : Jvm.MethodName)) ∈ gT := gT_in 449 (by decide +kernel) (by decide +kernel)
set_option maxRecDepth 20000 in
theorem tY_X6_fail : (Jvm.Cond.code ({ cls := "YesterdayScale$Tape", name := "fail", desc := "(I)Z" } : Jvm.MethodName) prog_8_method_14_code (2 : Nat) (Option.some Jvm.ClassFile.FieldType.boolean)) ∈ gT := gT_in 450 (by decide +kernel) (by decide +kernel)
set_option maxRecDepth 20000 in
theorem tM_X6_54 : (Jvm.Cond.methodLink "YesterdayScale$Tape" (54 : Nat) ({ cls := "YesterdayScale$Tape", name := "takeNumber", desc := "(II)Z" } : Jvm.MethodName)) ∈ gT := gT_in 451 (by decide +kernel) (by decide +kernel)
set_option maxRecDepth 20000 in
theorem tI_X6_takeNumber : (Jvm.Cond.instanceMethod ({ cls := "YesterdayScale$Tape", name := "takeNumber", desc := "(II)Z" } : Jvm.MethodName)) ∈ gT := gT_in 453 (by decide +kernel) (by decide +kernel)
set_option maxRecDepth 20000 in
theorem tY_X6_takeNumber : (Jvm.Cond.code ({ cls := "YesterdayScale$Tape", name := "takeNumber", desc := "(II)Z" } : Jvm.MethodName) prog_8_method_12_code (3 : Nat) (Option.some Jvm.ClassFile.FieldType.boolean)) ∈ gT := gT_in 454 (by decide +kernel) (by decide +kernel)
set_option maxRecDepth 20000 in
theorem tM_X6_125 : (Jvm.Cond.methodLink "YesterdayScale$Tape" (125 : Nat) ({ cls := "YesterdayScale$Tape", name := "numberRead", desc := "()I" } : Jvm.MethodName)) ∈ gT := gT_in 455 (by decide +kernel) (by decide +kernel)
set_option maxRecDepth 20000 in
theorem tI_X6_numberRead : (Jvm.Cond.instanceMethod ({ cls := "YesterdayScale$Tape", name := "numberRead", desc := "()I" } : Jvm.MethodName)) ∈ gT := gT_in 457 (by decide +kernel) (by decide +kernel)
set_option maxRecDepth 20000 in
theorem tY_X6_numberRead : (Jvm.Cond.code ({ cls := "YesterdayScale$Tape", name := "numberRead", desc := "()I" } : Jvm.MethodName) prog_8_method_16_code (3 : Nat) (Option.some Jvm.ClassFile.FieldType.int)) ∈ gT := gT_in 458 (by decide +kernel) (by decide +kernel)
set_option maxRecDepth 20000 in
theorem tM_X6_70 : (Jvm.Cond.methodLink "YesterdayScale$Tape" (70 : Nat) ({ cls := "YesterdayScale$Tape", name := "takeSemicolon", desc := "()Z" } : Jvm.MethodName)) ∈ gT := gT_in 459 (by decide +kernel) (by decide +kernel)
set_option maxRecDepth 20000 in
theorem tI_X6_takeSemicolon : (Jvm.Cond.instanceMethod ({ cls := "YesterdayScale$Tape", name := "takeSemicolon", desc := "()Z" } : Jvm.MethodName)) ∈ gT := gT_in 461 (by decide +kernel) (by decide +kernel)
set_option maxRecDepth 20000 in
theorem tY_X6_takeSemicolon : (Jvm.Cond.code ({ cls := "YesterdayScale$Tape", name := "takeSemicolon", desc := "()Z" } : Jvm.MethodName) prog_8_method_13_code (1 : Nat) (Option.some Jvm.ClassFile.FieldType.boolean)) ∈ gT := gT_in 462 (by decide +kernel) (by decide +kernel)
set_option maxRecDepth 20000 in
theorem tM_X6_34 : (Jvm.Cond.methodLink "YesterdayScale$Tape" (34 : Nat) ({ cls := "YesterdayScale$Tape", name := "readThings", desc := "(LYesterdayScale$Port;)Z" } : Jvm.MethodName)) ∈ gT := gT_in 463 (by decide +kernel) (by decide +kernel)
set_option maxRecDepth 20000 in
theorem tI_X6_readThings : (Jvm.Cond.instanceMethod ({ cls := "YesterdayScale$Tape", name := "readThings", desc := "(LYesterdayScale$Port;)Z" } : Jvm.MethodName)) ∈ gT := gT_in 465 (by decide +kernel) (by decide +kernel)
set_option maxRecDepth 20000 in
theorem tY_X6_readThings : (Jvm.Cond.code ({ cls := "YesterdayScale$Tape", name := "readThings", desc := "(LYesterdayScale$Port;)Z" } : Jvm.MethodName) prog_8_method_6_code (3 : Nat) (Option.some Jvm.ClassFile.FieldType.boolean)) ∈ gT := gT_in 466 (by decide +kernel) (by decide +kernel)
set_option maxRecDepth 20000 in
theorem tM_X6_82 : (Jvm.Cond.methodLink "YesterdayScale$Tape" (82 : Nat) ({ cls := "YesterdayScale$Tape", name := "readThing", desc := "(LYesterdayScale$Port;)Z" } : Jvm.MethodName)) ∈ gT := gT_in 468 (by decide +kernel) (by decide +kernel)
set_option maxRecDepth 20000 in
theorem tI_X6_readThing : (Jvm.Cond.instanceMethod ({ cls := "YesterdayScale$Tape", name := "readThing", desc := "(LYesterdayScale$Port;)Z" } : Jvm.MethodName)) ∈ gT := gT_in 470 (by decide +kernel) (by decide +kernel)
set_option maxRecDepth 20000 in
theorem tY_X6_readThing : (Jvm.Cond.code ({ cls := "YesterdayScale$Tape", name := "readThing", desc := "(LYesterdayScale$Port;)Z" } : Jvm.MethodName) prog_8_method_7_code (3 : Nat) (Option.some Jvm.ClassFile.FieldType.boolean)) ∈ gT := gT_in 471 (by decide +kernel) (by decide +kernel)
set_option maxRecDepth 20000 in
theorem tM_X6_85 : (Jvm.Cond.methodLink "YesterdayScale$Tape" (85 : Nat) ({ cls := "YesterdayScale$Tape", name := "sortNamed", desc := "()I" } : Jvm.MethodName)) ∈ gT := gT_in 472 (by decide +kernel) (by decide +kernel)
set_option maxRecDepth 20000 in
theorem tI_X6_sortNamed : (Jvm.Cond.instanceMethod ({ cls := "YesterdayScale$Tape", name := "sortNamed", desc := "()I" } : Jvm.MethodName)) ∈ gT := gT_in 474 (by decide +kernel) (by decide +kernel)
set_option maxRecDepth 20000 in
theorem tY_X6_sortNamed : (Jvm.Cond.code ({ cls := "YesterdayScale$Tape", name := "sortNamed", desc := "()I" } : Jvm.MethodName) prog_8_method_10_code (1 : Nat) (Option.some Jvm.ClassFile.FieldType.int)) ∈ gT := gT_in 475 (by decide +kernel) (by decide +kernel)
set_option maxRecDepth 20000 in
theorem tM_X6_89 : (Jvm.Cond.methodLink "YesterdayScale$Tape" (89 : Nat) ({ cls := "YesterdayScale$Port", name := "addThing", desc := "(II)V" } : Jvm.MethodName)) ∈ gT := gT_in 481 (by decide +kernel) (by decide +kernel)
set_option maxRecDepth 20000 in
theorem tI_X2_addThing : (Jvm.Cond.instanceMethod ({ cls := "YesterdayScale$Port", name := "addThing", desc := "(II)V" } : Jvm.MethodName)) ∈ gT := gT_in 482 (by decide +kernel) (by decide +kernel)
set_option maxRecDepth 20000 in
theorem tSel_X2_X2_X2_addThing : (Jvm.Cond.selects "YesterdayScale$Port" ({ cls := "YesterdayScale$Port", name := "addThing", desc := "(II)V" } : Jvm.MethodName) ({ cls := "YesterdayScale$Port", name := "addThing", desc := "(II)V" } : Jvm.MethodName)) ∈ gT := gT_in 483 (by decide +kernel) (by decide +kernel)
set_option maxRecDepth 20000 in
theorem tY_X2_addThing : (Jvm.Cond.code ({ cls := "YesterdayScale$Port", name := "addThing", desc := "(II)V" } : Jvm.MethodName) prog_4_method_4_code (3 : Nat) (Option.none : Option Jvm.ClassFile.FieldType)) ∈ gT := gT_in 484 (by decide +kernel) (by decide +kernel)
set_option maxRecDepth 20000 in
theorem tM_X2_50 : (Jvm.Cond.methodLink "YesterdayScale$Port" (50 : Nat) ({ cls := "YesterdayScale$Port", name := "made", desc := "(III)LYesterdayScale$Thing;" } : Jvm.MethodName)) ∈ gT := gT_in 485 (by decide +kernel) (by decide +kernel)
set_option maxRecDepth 20000 in
theorem tS_X2_made : (Jvm.Cond.static ({ cls := "YesterdayScale$Port", name := "made", desc := "(III)LYesterdayScale$Thing;" } : Jvm.MethodName)) ∈ gT := gT_in 486 (by decide +kernel) (by decide +kernel)
set_option maxRecDepth 20000 in
theorem tY_X2_made : (Jvm.Cond.code ({ cls := "YesterdayScale$Port", name := "made", desc := "(III)LYesterdayScale$Thing;" } : Jvm.MethodName) prog_4_method_5_code (3 : Nat) (Option.some (Jvm.ClassFile.FieldType.object "YesterdayScale$Thing"))) ∈ gT := gT_in 487 (by decide +kernel) (by decide +kernel)
set_option maxRecDepth 20000 in
theorem tC_X2_56 : (Jvm.Cond.classLink "YesterdayScale$Port" (56 : Nat) "YesterdayScale$Fish") ∈ gT := gT_in 488 (by decide +kernel) (by decide +kernel)
set_option maxRecDepth 20000 in
theorem tIns_X1 : (Jvm.Cond.instantiable "YesterdayScale$Fish" (2 : Nat)) ∈ gT := gT_in 489 (by decide +kernel) (by decide +kernel)
set_option maxRecDepth 20000 in
theorem tM_X2_58 : (Jvm.Cond.methodLink "YesterdayScale$Port" (58 : Nat) ({ cls := "YesterdayScale$Fish", name := "<init>", desc := "(II)V" } : Jvm.MethodName)) ∈ gT := gT_in 490 (by decide +kernel) (by decide +kernel)
set_option maxRecDepth 20000 in
theorem tI_X1_init : (Jvm.Cond.instanceMethod ({ cls := "YesterdayScale$Fish", name := "<init>", desc := "(II)V" } : Jvm.MethodName)) ∈ gT := gT_in 491 (by decide +kernel) (by decide +kernel)
set_option maxRecDepth 20000 in
theorem tY_X1_init : (Jvm.Cond.code ({ cls := "YesterdayScale$Fish", name := "<init>", desc := "(II)V" } : Jvm.MethodName) prog_3_method_1_code (3 : Nat) (Option.none : Option Jvm.ClassFile.FieldType)) ∈ gT := gT_in 492 (by decide +kernel) (by decide +kernel)
set_option maxRecDepth 20000 in
theorem tM_X1_1 : (Jvm.Cond.methodLink "YesterdayScale$Fish" (1 : Nat) ({ cls := "YesterdayScale$Salt", name := "<init>", desc := "(II)V" } : Jvm.MethodName)) ∈ gT := gT_in 493 (by decide +kernel) (by decide +kernel)
set_option maxRecDepth 20000 in
theorem tI_X4_init : (Jvm.Cond.instanceMethod ({ cls := "YesterdayScale$Salt", name := "<init>", desc := "(II)V" } : Jvm.MethodName)) ∈ gT := gT_in 494 (by decide +kernel) (by decide +kernel)
set_option maxRecDepth 20000 in
theorem tY_X4_init : (Jvm.Cond.code ({ cls := "YesterdayScale$Salt", name := "<init>", desc := "(II)V" } : Jvm.MethodName) prog_6_method_1_code (3 : Nat) (Option.none : Option Jvm.ClassFile.FieldType)) ∈ gT := gT_in 495 (by decide +kernel) (by decide +kernel)
set_option maxRecDepth 20000 in
theorem tM_X4_1 : (Jvm.Cond.methodLink "YesterdayScale$Salt" (1 : Nat) ({ cls := "YesterdayScale$Thing", name := "<init>", desc := "(II)V" } : Jvm.MethodName)) ∈ gT := gT_in 496 (by decide +kernel) (by decide +kernel)
set_option maxRecDepth 20000 in
theorem tI_X7_init : (Jvm.Cond.instanceMethod ({ cls := "YesterdayScale$Thing", name := "<init>", desc := "(II)V" } : Jvm.MethodName)) ∈ gT := gT_in 497 (by decide +kernel) (by decide +kernel)
set_option maxRecDepth 20000 in
theorem tY_X7_init : (Jvm.Cond.code ({ cls := "YesterdayScale$Thing", name := "<init>", desc := "(II)V" } : Jvm.MethodName) prog_9_method_1_code (3 : Nat) (Option.none : Option Jvm.ClassFile.FieldType)) ∈ gT := gT_in 498 (by decide +kernel) (by decide +kernel)
set_option maxRecDepth 20000 in
theorem tM_X7_1 : (Jvm.Cond.methodLink "YesterdayScale$Thing" (1 : Nat) ({ cls := "java/lang/Object", name := "<init>", desc := "()V" } : Jvm.MethodName)) ∈ gT := gT_in 499 (by decide +kernel) (by decide +kernel)
set_option maxRecDepth 20000 in
theorem tF_X7_7 : (Jvm.Cond.fieldLink "YesterdayScale$Thing" (7 : Nat) "YesterdayScale$Thing" "number" "I") ∈ gT := gT_in 500 (by decide +kernel) (by decide +kernel)
set_option maxRecDepth 20000 in
theorem tF_X11_221 : (Jvm.Cond.fieldLink "YesterdayScale" (221 : Nat) "YesterdayScale$Thing" "number" "I") ∈ gT := gT_in 501 (by decide +kernel) (by decide +kernel)
set_option maxRecDepth 20000 in
theorem tF_X7_13 : (Jvm.Cond.fieldLink "YesterdayScale$Thing" (13 : Nat) "YesterdayScale$Thing" "weight" "I") ∈ gT := gT_in 502 (by decide +kernel) (by decide +kernel)
set_option maxRecDepth 20000 in
theorem tF_X11_155 : (Jvm.Cond.fieldLink "YesterdayScale" (155 : Nat) "YesterdayScale$Thing" "weight" "I") ∈ gT := gT_in 503 (by decide +kernel) (by decide +kernel)
set_option maxRecDepth 20000 in
theorem tF_X2_79 : (Jvm.Cond.fieldLink "YesterdayScale$Port" (79 : Nat) "YesterdayScale$Thing" "weight" "I") ∈ gT := gT_in 504 (by decide +kernel) (by decide +kernel)
set_option maxRecDepth 20000 in
theorem tF_X10_145 : (Jvm.Cond.fieldLink "YesterdayScale$Worlds" (145 : Nat) "YesterdayScale$Thing" "weight" "I") ∈ gT := gT_in 505 (by decide +kernel) (by decide +kernel)
set_option maxRecDepth 20000 in
theorem tSup_X1 : (Jvm.Cond.superclass "YesterdayScale$Fish" "YesterdayScale$Salt") ∈ gT := gT_in 510 (by decide +kernel) (by decide +kernel)
set_option maxRecDepth 20000 in
theorem tC_X2_61 : (Jvm.Cond.classLink "YesterdayScale$Port" (61 : Nat) "YesterdayScale$Wool") ∈ gT := gT_in 511 (by decide +kernel) (by decide +kernel)
set_option maxRecDepth 20000 in
theorem tIns_X9 : (Jvm.Cond.instantiable "YesterdayScale$Wool" (2 : Nat)) ∈ gT := gT_in 512 (by decide +kernel) (by decide +kernel)
set_option maxRecDepth 20000 in
theorem tM_X2_63 : (Jvm.Cond.methodLink "YesterdayScale$Port" (63 : Nat) ({ cls := "YesterdayScale$Wool", name := "<init>", desc := "(II)V" } : Jvm.MethodName)) ∈ gT := gT_in 513 (by decide +kernel) (by decide +kernel)
set_option maxRecDepth 20000 in
theorem tI_X9_init : (Jvm.Cond.instanceMethod ({ cls := "YesterdayScale$Wool", name := "<init>", desc := "(II)V" } : Jvm.MethodName)) ∈ gT := gT_in 514 (by decide +kernel) (by decide +kernel)
set_option maxRecDepth 20000 in
theorem tY_X9_init : (Jvm.Cond.code ({ cls := "YesterdayScale$Wool", name := "<init>", desc := "(II)V" } : Jvm.MethodName) prog_11_method_1_code (3 : Nat) (Option.none : Option Jvm.ClassFile.FieldType)) ∈ gT := gT_in 515 (by decide +kernel) (by decide +kernel)
set_option maxRecDepth 20000 in
theorem tM_X9_1 : (Jvm.Cond.methodLink "YesterdayScale$Wool" (1 : Nat) ({ cls := "YesterdayScale$Salt", name := "<init>", desc := "(II)V" } : Jvm.MethodName)) ∈ gT := gT_in 516 (by decide +kernel) (by decide +kernel)
set_option maxRecDepth 20000 in
theorem tSup_X9 : (Jvm.Cond.superclass "YesterdayScale$Wool" "YesterdayScale$Salt") ∈ gT := gT_in 519 (by decide +kernel) (by decide +kernel)
set_option maxRecDepth 20000 in
theorem tC_X2_54 : (Jvm.Cond.classLink "YesterdayScale$Port" (54 : Nat) "YesterdayScale$Stone") ∈ gT := gT_in 520 (by decide +kernel) (by decide +kernel)
set_option maxRecDepth 20000 in
theorem tIns_X5 : (Jvm.Cond.instantiable "YesterdayScale$Stone" (2 : Nat)) ∈ gT := gT_in 521 (by decide +kernel) (by decide +kernel)
set_option maxRecDepth 20000 in
theorem tM_X2_64 : (Jvm.Cond.methodLink "YesterdayScale$Port" (64 : Nat) ({ cls := "YesterdayScale$Stone", name := "<init>", desc := "(II)V" } : Jvm.MethodName)) ∈ gT := gT_in 522 (by decide +kernel) (by decide +kernel)
set_option maxRecDepth 20000 in
theorem tI_X5_init : (Jvm.Cond.instanceMethod ({ cls := "YesterdayScale$Stone", name := "<init>", desc := "(II)V" } : Jvm.MethodName)) ∈ gT := gT_in 523 (by decide +kernel) (by decide +kernel)
set_option maxRecDepth 20000 in
theorem tY_X5_init : (Jvm.Cond.code ({ cls := "YesterdayScale$Stone", name := "<init>", desc := "(II)V" } : Jvm.MethodName) prog_7_method_1_code (3 : Nat) (Option.none : Option Jvm.ClassFile.FieldType)) ∈ gT := gT_in 524 (by decide +kernel) (by decide +kernel)
set_option maxRecDepth 20000 in
theorem tM_X5_1 : (Jvm.Cond.methodLink "YesterdayScale$Stone" (1 : Nat) ({ cls := "YesterdayScale$Thing", name := "<init>", desc := "(II)V" } : Jvm.MethodName)) ∈ gT := gT_in 525 (by decide +kernel) (by decide +kernel)
set_option maxRecDepth 20000 in
theorem tSup_X5 : (Jvm.Cond.superclass "YesterdayScale$Stone" "YesterdayScale$Thing") ∈ gT := gT_in 528 (by decide +kernel) (by decide +kernel)
set_option maxRecDepth 20000 in
theorem tC_X2_65 : (Jvm.Cond.classLink "YesterdayScale$Port" (65 : Nat) "YesterdayScale$Whale") ∈ gT := gT_in 529 (by decide +kernel) (by decide +kernel)
set_option maxRecDepth 20000 in
theorem tIns_X8 : (Jvm.Cond.instantiable "YesterdayScale$Whale" (2 : Nat)) ∈ gT := gT_in 530 (by decide +kernel) (by decide +kernel)
set_option maxRecDepth 20000 in
theorem tM_X2_67 : (Jvm.Cond.methodLink "YesterdayScale$Port" (67 : Nat) ({ cls := "YesterdayScale$Whale", name := "<init>", desc := "(II)V" } : Jvm.MethodName)) ∈ gT := gT_in 531 (by decide +kernel) (by decide +kernel)
set_option maxRecDepth 20000 in
theorem tI_X8_init : (Jvm.Cond.instanceMethod ({ cls := "YesterdayScale$Whale", name := "<init>", desc := "(II)V" } : Jvm.MethodName)) ∈ gT := gT_in 532 (by decide +kernel) (by decide +kernel)
set_option maxRecDepth 20000 in
theorem tY_X8_init : (Jvm.Cond.code ({ cls := "YesterdayScale$Whale", name := "<init>", desc := "(II)V" } : Jvm.MethodName) prog_10_method_1_code (3 : Nat) (Option.none : Option Jvm.ClassFile.FieldType)) ∈ gT := gT_in 533 (by decide +kernel) (by decide +kernel)
set_option maxRecDepth 20000 in
theorem tM_X8_1 : (Jvm.Cond.methodLink "YesterdayScale$Whale" (1 : Nat) ({ cls := "YesterdayScale$Stone", name := "<init>", desc := "(II)V" } : Jvm.MethodName)) ∈ gT := gT_in 534 (by decide +kernel) (by decide +kernel)
set_option maxRecDepth 20000 in
theorem tSup_X8 : (Jvm.Cond.superclass "YesterdayScale$Whale" "YesterdayScale$Stone") ∈ gT := gT_in 537 (by decide +kernel) (by decide +kernel)
set_option maxRecDepth 20000 in
theorem tC_X2_68 : (Jvm.Cond.classLink "YesterdayScale$Port" (68 : Nat) "YesterdayScale$Salt") ∈ gT := gT_in 538 (by decide +kernel) (by decide +kernel)
set_option maxRecDepth 20000 in
theorem tIns_X4 : (Jvm.Cond.instantiable "YesterdayScale$Salt" (2 : Nat)) ∈ gT := gT_in 539 (by decide +kernel) (by decide +kernel)
set_option maxRecDepth 20000 in
theorem tM_X2_70 : (Jvm.Cond.methodLink "YesterdayScale$Port" (70 : Nat) ({ cls := "YesterdayScale$Salt", name := "<init>", desc := "(II)V" } : Jvm.MethodName)) ∈ gT := gT_in 540 (by decide +kernel) (by decide +kernel)
set_option maxRecDepth 20000 in
theorem tSup_X4 : (Jvm.Cond.superclass "YesterdayScale$Salt" "YesterdayScale$Thing") ∈ gT := gT_in 543 (by decide +kernel) (by decide +kernel)
set_option maxRecDepth 20000 in
theorem tM_X6_37 : (Jvm.Cond.methodLink "YesterdayScale$Tape" (37 : Nat) ({ cls := "YesterdayScale$Tape", name := "readDays", desc := "(LYesterdayScale$Port;)Z" } : Jvm.MethodName)) ∈ gT := gT_in 544 (by decide +kernel) (by decide +kernel)
set_option maxRecDepth 20000 in
theorem tI_X6_readDays : (Jvm.Cond.instanceMethod ({ cls := "YesterdayScale$Tape", name := "readDays", desc := "(LYesterdayScale$Port;)Z" } : Jvm.MethodName)) ∈ gT := gT_in 546 (by decide +kernel) (by decide +kernel)
set_option maxRecDepth 20000 in
theorem tY_X6_readDays : (Jvm.Cond.code ({ cls := "YesterdayScale$Tape", name := "readDays", desc := "(LYesterdayScale$Port;)Z" } : Jvm.MethodName) prog_8_method_8_code (3 : Nat) (Option.some Jvm.ClassFile.FieldType.boolean)) ∈ gT := gT_in 547 (by decide +kernel) (by decide +kernel)
set_option maxRecDepth 20000 in
theorem tM_X6_95 : (Jvm.Cond.methodLink "YesterdayScale$Tape" (95 : Nat) ({ cls := "YesterdayScale$Port", name := "allThings", desc := "()I" } : Jvm.MethodName)) ∈ gT := gT_in 549 (by decide +kernel) (by decide +kernel)
set_option maxRecDepth 20000 in
theorem tI_X2_allThings : (Jvm.Cond.instanceMethod ({ cls := "YesterdayScale$Port", name := "allThings", desc := "()I" } : Jvm.MethodName)) ∈ gT := gT_in 550 (by decide +kernel) (by decide +kernel)
set_option maxRecDepth 20000 in
theorem tSel_X2_X2_X2_allThings : (Jvm.Cond.selects "YesterdayScale$Port" ({ cls := "YesterdayScale$Port", name := "allThings", desc := "()I" } : Jvm.MethodName) ({ cls := "YesterdayScale$Port", name := "allThings", desc := "()I" } : Jvm.MethodName)) ∈ gT := gT_in 551 (by decide +kernel) (by decide +kernel)
set_option maxRecDepth 20000 in
theorem tY_X2_allThings : (Jvm.Cond.code ({ cls := "YesterdayScale$Port", name := "allThings", desc := "()I" } : Jvm.MethodName) prog_4_method_7_code (1 : Nat) (Option.some Jvm.ClassFile.FieldType.int)) ∈ gT := gT_in 552 (by decide +kernel) (by decide +kernel)
set_option maxRecDepth 20000 in
theorem tM_X6_98 : (Jvm.Cond.methodLink "YesterdayScale$Tape" (98 : Nat) ({ cls := "YesterdayScale$Port", name := "addDay", desc := "(I)V" } : Jvm.MethodName)) ∈ gT := gT_in 553 (by decide +kernel) (by decide +kernel)
set_option maxRecDepth 20000 in
theorem tI_X2_addDay : (Jvm.Cond.instanceMethod ({ cls := "YesterdayScale$Port", name := "addDay", desc := "(I)V" } : Jvm.MethodName)) ∈ gT := gT_in 554 (by decide +kernel) (by decide +kernel)
set_option maxRecDepth 20000 in
theorem tSel_X2_X2_X2_addDay : (Jvm.Cond.selects "YesterdayScale$Port" ({ cls := "YesterdayScale$Port", name := "addDay", desc := "(I)V" } : Jvm.MethodName) ({ cls := "YesterdayScale$Port", name := "addDay", desc := "(I)V" } : Jvm.MethodName)) ∈ gT := gT_in 555 (by decide +kernel) (by decide +kernel)
set_option maxRecDepth 20000 in
theorem tY_X2_addDay : (Jvm.Cond.code ({ cls := "YesterdayScale$Port", name := "addDay", desc := "(I)V" } : Jvm.MethodName) prog_4_method_6_code (2 : Nat) (Option.none : Option Jvm.ClassFile.FieldType)) ∈ gT := gT_in 556 (by decide +kernel) (by decide +kernel)
set_option maxRecDepth 20000 in
theorem tM_X6_40 : (Jvm.Cond.methodLink "YesterdayScale$Tape" (40 : Nat) ({ cls := "YesterdayScale$Tape", name := "readEnd", desc := "()Z" } : Jvm.MethodName)) ∈ gT := gT_in 557 (by decide +kernel) (by decide +kernel)
set_option maxRecDepth 20000 in
theorem tI_X6_readEnd : (Jvm.Cond.instanceMethod ({ cls := "YesterdayScale$Tape", name := "readEnd", desc := "()Z" } : Jvm.MethodName)) ∈ gT := gT_in 559 (by decide +kernel) (by decide +kernel)
set_option maxRecDepth 20000 in
theorem tY_X6_readEnd : (Jvm.Cond.code ({ cls := "YesterdayScale$Tape", name := "readEnd", desc := "()Z" } : Jvm.MethodName) prog_8_method_9_code (1 : Nat) (Option.some Jvm.ClassFile.FieldType.boolean)) ∈ gT := gT_in 560 (by decide +kernel) (by decide +kernel)
set_option maxRecDepth 20000 in
theorem tK_X11_113 : (Jvm.Cond.constant "YesterdayScale" (113 : Nat) (-1000100 : Int32)) ∈ gT := gT_in 561 (by decide +kernel) (by decide +kernel)
set_option maxRecDepth 20000 in
theorem tM_X11_117 : (Jvm.Cond.methodLink "YesterdayScale" (117 : Nat) ({ cls := "YesterdayScale$Port", name := "become", desc := "(LYesterdayScale$Port;)V" } : Jvm.MethodName)) ∈ gT := gT_in 562 (by decide +kernel) (by decide +kernel)
set_option maxRecDepth 20000 in
theorem tI_X2_become : (Jvm.Cond.instanceMethod ({ cls := "YesterdayScale$Port", name := "become", desc := "(LYesterdayScale$Port;)V" } : Jvm.MethodName)) ∈ gT := gT_in 563 (by decide +kernel) (by decide +kernel)
set_option maxRecDepth 20000 in
theorem tSel_X2_X2_X2_become : (Jvm.Cond.selects "YesterdayScale$Port" ({ cls := "YesterdayScale$Port", name := "become", desc := "(LYesterdayScale$Port;)V" } : Jvm.MethodName) ({ cls := "YesterdayScale$Port", name := "become", desc := "(LYesterdayScale$Port;)V" } : Jvm.MethodName)) ∈ gT := gT_in 564 (by decide +kernel) (by decide +kernel)
set_option maxRecDepth 20000 in
theorem tY_X2_become : (Jvm.Cond.code ({ cls := "YesterdayScale$Port", name := "become", desc := "(LYesterdayScale$Port;)V" } : Jvm.MethodName) prog_4_method_3_code (3 : Nat) (Option.none : Option Jvm.ClassFile.FieldType)) ∈ gT := gT_in 565 (by decide +kernel) (by decide +kernel)
set_option maxRecDepth 20000 in
theorem tM_X2_44 : (Jvm.Cond.methodLink "YesterdayScale$Port" (44 : Nat) ({ cls := "java/lang/System", name := "arraycopy", desc := "(Ljava/lang/Object;ILjava/lang/Object;II)V" } : Jvm.MethodName)) ∈ gT := gT_in 566 (by decide +kernel) (by decide +kernel)
set_option maxRecDepth 20000 in
theorem tM_X11_121 : (Jvm.Cond.methodLink "YesterdayScale" (121 : Nat) ({ cls := "YesterdayScale$Worlds", name := "forget", desc := "()V" } : Jvm.MethodName)) ∈ gT := gT_in 567 (by decide +kernel) (by decide +kernel)
set_option maxRecDepth 20000 in
theorem tI_X10_forget : (Jvm.Cond.instanceMethod ({ cls := "YesterdayScale$Worlds", name := "forget", desc := "()V" } : Jvm.MethodName)) ∈ gT := gT_in 568 (by decide +kernel) (by decide +kernel)
set_option maxRecDepth 20000 in
theorem tSel_X10_X10_X10_forget : (Jvm.Cond.selects "YesterdayScale$Worlds" ({ cls := "YesterdayScale$Worlds", name := "forget", desc := "()V" } : Jvm.MethodName) ({ cls := "YesterdayScale$Worlds", name := "forget", desc := "()V" } : Jvm.MethodName)) ∈ gT := gT_in 569 (by decide +kernel) (by decide +kernel)
set_option maxRecDepth 20000 in
theorem tY_X10_forget : (Jvm.Cond.code ({ cls := "YesterdayScale$Worlds", name := "forget", desc := "()V" } : Jvm.MethodName) prog_12_method_16_code (1 : Nat) (Option.none : Option Jvm.ClassFile.FieldType)) ∈ gT := gT_in 570 (by decide +kernel) (by decide +kernel)
set_option maxRecDepth 20000 in
theorem tM_L_44 : (Jvm.Cond.methodLink "YesterdayScaleLaw" (44 : Nat) ({ cls := "YesterdayScale", name := "fault", desc := "()I" } : Jvm.MethodName)) ∈ gT := gT_in 571 (by decide +kernel) (by decide +kernel)
set_option maxRecDepth 20000 in
theorem tI_X11_fault : (Jvm.Cond.instanceMethod ({ cls := "YesterdayScale", name := "fault", desc := "()I" } : Jvm.MethodName)) ∈ gT := gT_in 572 (by decide +kernel) (by decide +kernel)
set_option maxRecDepth 20000 in
theorem tSel_X11_X11_X11_fault : (Jvm.Cond.selects "YesterdayScale" ({ cls := "YesterdayScale", name := "fault", desc := "()I" } : Jvm.MethodName) ({ cls := "YesterdayScale", name := "fault", desc := "()I" } : Jvm.MethodName)) ∈ gT := gT_in 573 (by decide +kernel) (by decide +kernel)
set_option maxRecDepth 20000 in
theorem tY_X11_fault : (Jvm.Cond.code ({ cls := "YesterdayScale", name := "fault", desc := "()I" } : Jvm.MethodName) prog_1_method_8_code (1 : Nat) (Option.some Jvm.ClassFile.FieldType.int)) ∈ gT := gT_in 574 (by decide +kernel) (by decide +kernel)
set_option maxRecDepth 20000 in
theorem tM_L_48 : (Jvm.Cond.methodLink "YesterdayScaleLaw" (48 : Nat) ({ cls := "YesterdayScale", name := "day", desc := "(I)I" } : Jvm.MethodName)) ∈ gT := gT_in 575 (by decide +kernel) (by decide +kernel)
set_option maxRecDepth 20000 in
theorem tI_X11_day : (Jvm.Cond.instanceMethod ({ cls := "YesterdayScale", name := "day", desc := "(I)I" } : Jvm.MethodName)) ∈ gT := gT_in 576 (by decide +kernel) (by decide +kernel)
set_option maxRecDepth 20000 in
theorem tSel_X11_X11_X11_day : (Jvm.Cond.selects "YesterdayScale" ({ cls := "YesterdayScale", name := "day", desc := "(I)I" } : Jvm.MethodName) ({ cls := "YesterdayScale", name := "day", desc := "(I)I" } : Jvm.MethodName)) ∈ gT := gT_in 577 (by decide +kernel) (by decide +kernel)
set_option maxRecDepth 20000 in
theorem tY_X11_day : (Jvm.Cond.code ({ cls := "YesterdayScale", name := "day", desc := "(I)I" } : Jvm.MethodName) prog_1_method_9_code (2 : Nat) (Option.some Jvm.ClassFile.FieldType.int)) ∈ gT := gT_in 578 (by decide +kernel) (by decide +kernel)
set_option maxRecDepth 20000 in
theorem tK_X11_128 : (Jvm.Cond.constant "YesterdayScale" (128 : Nat) (-1000002 : Int32)) ∈ gT := gT_in 579 (by decide +kernel) (by decide +kernel)
set_option maxRecDepth 20000 in
theorem tM_X11_129 : (Jvm.Cond.methodLink "YesterdayScale" (129 : Nat) ({ cls := "YesterdayScale$Port", name := "canLay", desc := "(I)Z" } : Jvm.MethodName)) ∈ gT := gT_in 580 (by decide +kernel) (by decide +kernel)
set_option maxRecDepth 20000 in
theorem tI_X2_canLay : (Jvm.Cond.instanceMethod ({ cls := "YesterdayScale$Port", name := "canLay", desc := "(I)Z" } : Jvm.MethodName)) ∈ gT := gT_in 581 (by decide +kernel) (by decide +kernel)
set_option maxRecDepth 20000 in
theorem tSel_X2_X2_X2_canLay : (Jvm.Cond.selects "YesterdayScale$Port" ({ cls := "YesterdayScale$Port", name := "canLay", desc := "(I)Z" } : Jvm.MethodName) ({ cls := "YesterdayScale$Port", name := "canLay", desc := "(I)Z" } : Jvm.MethodName)) ∈ gT := gT_in 582 (by decide +kernel) (by decide +kernel)
set_option maxRecDepth 20000 in
theorem tY_X2_canLay : (Jvm.Cond.code ({ cls := "YesterdayScale$Port", name := "canLay", desc := "(I)Z" } : Jvm.MethodName) prog_4_method_8_code (2 : Nat) (Option.some Jvm.ClassFile.FieldType.boolean)) ∈ gT := gT_in 583 (by decide +kernel) (by decide +kernel)
set_option maxRecDepth 20000 in
theorem tM_X2_71 : (Jvm.Cond.methodLink "YesterdayScale$Port" (71 : Nat) ({ cls := "YesterdayScale$Port", name := "allThings", desc := "()I" } : Jvm.MethodName)) ∈ gT := gT_in 584 (by decide +kernel) (by decide +kernel)
set_option maxRecDepth 20000 in
theorem tM_X11_132 : (Jvm.Cond.methodLink "YesterdayScale" (132 : Nat) ({ cls := "YesterdayScale$Port", name := "addDay", desc := "(I)V" } : Jvm.MethodName)) ∈ gT := gT_in 585 (by decide +kernel) (by decide +kernel)
set_option maxRecDepth 20000 in
theorem tM_X11_136 : (Jvm.Cond.methodLink "YesterdayScale" (136 : Nat) ({ cls := "YesterdayScale$Port", name := "shownOn", desc := "(I)I" } : Jvm.MethodName)) ∈ gT := gT_in 586 (by decide +kernel) (by decide +kernel)
set_option maxRecDepth 20000 in
theorem tI_X2_shownOn : (Jvm.Cond.instanceMethod ({ cls := "YesterdayScale$Port", name := "shownOn", desc := "(I)I" } : Jvm.MethodName)) ∈ gT := gT_in 587 (by decide +kernel) (by decide +kernel)
set_option maxRecDepth 20000 in
theorem tSel_X2_X2_X2_shownOn : (Jvm.Cond.selects "YesterdayScale$Port" ({ cls := "YesterdayScale$Port", name := "shownOn", desc := "(I)I" } : Jvm.MethodName) ({ cls := "YesterdayScale$Port", name := "shownOn", desc := "(I)I" } : Jvm.MethodName)) ∈ gT := gT_in 588 (by decide +kernel) (by decide +kernel)
set_option maxRecDepth 20000 in
theorem tY_X2_shownOn : (Jvm.Cond.code ({ cls := "YesterdayScale$Port", name := "shownOn", desc := "(I)I" } : Jvm.MethodName) prog_4_method_15_code (2 : Nat) (Option.some Jvm.ClassFile.FieldType.int)) ∈ gT := gT_in 589 (by decide +kernel) (by decide +kernel)
set_option maxRecDepth 20000 in
theorem tM_X2_90 : (Jvm.Cond.methodLink "YesterdayScale$Port" (90 : Nat) ({ cls := "YesterdayScale$Port", name := "shownBy", desc := "(IIII)I" } : Jvm.MethodName)) ∈ gT := gT_in 590 (by decide +kernel) (by decide +kernel)
set_option maxRecDepth 20000 in
theorem tI_X2_shownBy : (Jvm.Cond.instanceMethod ({ cls := "YesterdayScale$Port", name := "shownBy", desc := "(IIII)I" } : Jvm.MethodName)) ∈ gT := gT_in 592 (by decide +kernel) (by decide +kernel)
set_option maxRecDepth 20000 in
theorem tY_X2_shownBy : (Jvm.Cond.code ({ cls := "YesterdayScale$Port", name := "shownBy", desc := "(IIII)I" } : Jvm.MethodName) prog_4_method_16_code (9 : Nat) (Option.some Jvm.ClassFile.FieldType.int)) ∈ gT := gT_in 593 (by decide +kernel) (by decide +kernel)
set_option maxRecDepth 20000 in
theorem tM_X2_94 : (Jvm.Cond.methodLink "YesterdayScale$Port" (94 : Nat) ({ cls := "YesterdayScale$Port", name := "reachOf", desc := "(II)I" } : Jvm.MethodName)) ∈ gT := gT_in 594 (by decide +kernel) (by decide +kernel)
set_option maxRecDepth 20000 in
theorem tI_X2_reachOf : (Jvm.Cond.instanceMethod ({ cls := "YesterdayScale$Port", name := "reachOf", desc := "(II)I" } : Jvm.MethodName)) ∈ gT := gT_in 595 (by decide +kernel) (by decide +kernel)
set_option maxRecDepth 20000 in
theorem tSel_X2_X2_X2_reachOf : (Jvm.Cond.selects "YesterdayScale$Port" ({ cls := "YesterdayScale$Port", name := "reachOf", desc := "(II)I" } : Jvm.MethodName) ({ cls := "YesterdayScale$Port", name := "reachOf", desc := "(II)I" } : Jvm.MethodName)) ∈ gT := gT_in 596 (by decide +kernel) (by decide +kernel)
set_option maxRecDepth 20000 in
theorem tY_X2_reachOf : (Jvm.Cond.code ({ cls := "YesterdayScale$Port", name := "reachOf", desc := "(II)I" } : Jvm.MethodName) prog_4_method_14_code (4 : Nat) (Option.some Jvm.ClassFile.FieldType.int)) ∈ gT := gT_in 597 (by decide +kernel) (by decide +kernel)
set_option maxRecDepth 20000 in
theorem tM_X2_86 : (Jvm.Cond.methodLink "YesterdayScale$Port" (86 : Nat) ({ cls := "YesterdayScale$Port", name := "isFresh", desc := "(I)Z" } : Jvm.MethodName)) ∈ gT := gT_in 598 (by decide +kernel) (by decide +kernel)
set_option maxRecDepth 20000 in
theorem tI_X2_isFresh : (Jvm.Cond.instanceMethod ({ cls := "YesterdayScale$Port", name := "isFresh", desc := "(I)Z" } : Jvm.MethodName)) ∈ gT := gT_in 599 (by decide +kernel) (by decide +kernel)
set_option maxRecDepth 20000 in
theorem tSel_X2_X2_X2_isFresh : (Jvm.Cond.selects "YesterdayScale$Port" ({ cls := "YesterdayScale$Port", name := "isFresh", desc := "(I)Z" } : Jvm.MethodName) ({ cls := "YesterdayScale$Port", name := "isFresh", desc := "(I)Z" } : Jvm.MethodName)) ∈ gT := gT_in 600 (by decide +kernel) (by decide +kernel)
set_option maxRecDepth 20000 in
theorem tY_X2_isFresh : (Jvm.Cond.code ({ cls := "YesterdayScale$Port", name := "isFresh", desc := "(I)Z" } : Jvm.MethodName) prog_4_method_12_code (2 : Nat) (Option.some Jvm.ClassFile.FieldType.boolean)) ∈ gT := gT_in 601 (by decide +kernel) (by decide +kernel)
set_option maxRecDepth 20000 in
theorem tM_X2_97 : (Jvm.Cond.methodLink "YesterdayScale$Port" (97 : Nat) ({ cls := "YesterdayScale$Port", name := "loadOn", desc := "(I)I" } : Jvm.MethodName)) ∈ gT := gT_in 602 (by decide +kernel) (by decide +kernel)
set_option maxRecDepth 20000 in
theorem tI_X2_loadOn : (Jvm.Cond.instanceMethod ({ cls := "YesterdayScale$Port", name := "loadOn", desc := "(I)I" } : Jvm.MethodName)) ∈ gT := gT_in 603 (by decide +kernel) (by decide +kernel)
set_option maxRecDepth 20000 in
theorem tSel_X2_X2_X2_loadOn : (Jvm.Cond.selects "YesterdayScale$Port" ({ cls := "YesterdayScale$Port", name := "loadOn", desc := "(I)I" } : Jvm.MethodName) ({ cls := "YesterdayScale$Port", name := "loadOn", desc := "(I)I" } : Jvm.MethodName)) ∈ gT := gT_in 604 (by decide +kernel) (by decide +kernel)
set_option maxRecDepth 20000 in
theorem tY_X2_loadOn : (Jvm.Cond.code ({ cls := "YesterdayScale$Port", name := "loadOn", desc := "(I)I" } : Jvm.MethodName) prog_4_method_13_code (5 : Nat) (Option.some Jvm.ClassFile.FieldType.int)) ∈ gT := gT_in 605 (by decide +kernel) (by decide +kernel)
set_option maxRecDepth 20000 in
theorem tM_X2_75 : (Jvm.Cond.methodLink "YesterdayScale$Port" (75 : Nat) ({ cls := "YesterdayScale$Port", name := "liesOn", desc := "(II)Z" } : Jvm.MethodName)) ∈ gT := gT_in 606 (by decide +kernel) (by decide +kernel)
set_option maxRecDepth 20000 in
theorem tI_X2_liesOn : (Jvm.Cond.instanceMethod ({ cls := "YesterdayScale$Port", name := "liesOn", desc := "(II)Z" } : Jvm.MethodName)) ∈ gT := gT_in 607 (by decide +kernel) (by decide +kernel)
set_option maxRecDepth 20000 in
theorem tSel_X2_X2_X2_liesOn : (Jvm.Cond.selects "YesterdayScale$Port" ({ cls := "YesterdayScale$Port", name := "liesOn", desc := "(II)Z" } : Jvm.MethodName) ({ cls := "YesterdayScale$Port", name := "liesOn", desc := "(II)Z" } : Jvm.MethodName)) ∈ gT := gT_in 608 (by decide +kernel) (by decide +kernel)
set_option maxRecDepth 20000 in
theorem tY_X2_liesOn : (Jvm.Cond.code ({ cls := "YesterdayScale$Port", name := "liesOn", desc := "(II)Z" } : Jvm.MethodName) prog_4_method_11_code (3 : Nat) (Option.some Jvm.ClassFile.FieldType.boolean)) ∈ gT := gT_in 609 (by decide +kernel) (by decide +kernel)
set_option maxRecDepth 20000 in
theorem tM_X2_82 : (Jvm.Cond.methodLink "YesterdayScale$Port" (82 : Nat) ({ cls := "YesterdayScale$Thing", name := "heavyWith", desc := "(II)I" } : Jvm.MethodName)) ∈ gT := gT_in 610 (by decide +kernel) (by decide +kernel)
set_option maxRecDepth 20000 in
theorem tI_X7_heavyWith : (Jvm.Cond.instanceMethod ({ cls := "YesterdayScale$Thing", name := "heavyWith", desc := "(II)I" } : Jvm.MethodName)) ∈ gT := gT_in 611 (by decide +kernel) (by decide +kernel)
set_option maxRecDepth 20000 in
theorem tSam_X7_X7_heavyWith : (Jvm.Cond.sameMethod "YesterdayScale$Thing" "YesterdayScale$Thing" "heavyWith" "(II)I") ∈ gT := gT_in 612 (by decide +kernel) (by decide +kernel)
set_option maxRecDepth 20000 in
theorem tSel_X1_X7_X1_heavyWith : (Jvm.Cond.selects "YesterdayScale$Fish" ({ cls := "YesterdayScale$Thing", name := "heavyWith", desc := "(II)I" } : Jvm.MethodName) ({ cls := "YesterdayScale$Fish", name := "heavyWith", desc := "(II)I" } : Jvm.MethodName)) ∈ gT := gT_in 613 (by decide +kernel) (by decide +kernel)
set_option maxRecDepth 20000 in
theorem tI_X1_heavyWith : (Jvm.Cond.instanceMethod ({ cls := "YesterdayScale$Fish", name := "heavyWith", desc := "(II)I" } : Jvm.MethodName)) ∈ gT := gT_in 614 (by decide +kernel) (by decide +kernel)
set_option maxRecDepth 20000 in
theorem tY_X1_heavyWith : (Jvm.Cond.code ({ cls := "YesterdayScale$Fish", name := "heavyWith", desc := "(II)I" } : Jvm.MethodName) prog_3_method_3_code (3 : Nat) (Option.some Jvm.ClassFile.FieldType.int)) ∈ gT := gT_in 615 (by decide +kernel) (by decide +kernel)
set_option maxRecDepth 20000 in
theorem tM_X1_9 : (Jvm.Cond.methodLink "YesterdayScale$Fish" (9 : Nat) ({ cls := "java/lang/Math", name := "max", desc := "(II)I" } : Jvm.MethodName)) ∈ gT := gT_in 616 (by decide +kernel) (by decide +kernel)
set_option maxRecDepth 20000 in
theorem tS_J9_max_7cf53 : (Jvm.Cond.static ({ cls := "java/lang/Math", name := "max", desc := "(II)I" } : Jvm.MethodName)) ∈ gT := gT_in 617 (by decide +kernel) (by decide +kernel)
set_option maxRecDepth 20000 in
theorem tY_J9_max_7cf53 : (Jvm.Cond.code ({ cls := "java/lang/Math", name := "max", desc := "(II)I" } : Jvm.MethodName) prog_16_method_65_code (2 : Nat) (Option.some Jvm.ClassFile.FieldType.int)) ∈ gT := gT_in 618 (by decide +kernel) (by decide +kernel)
set_option maxRecDepth 20000 in
theorem tSel_X4_X7_X7_heavyWith : (Jvm.Cond.selects "YesterdayScale$Salt" ({ cls := "YesterdayScale$Thing", name := "heavyWith", desc := "(II)I" } : Jvm.MethodName) ({ cls := "YesterdayScale$Thing", name := "heavyWith", desc := "(II)I" } : Jvm.MethodName)) ∈ gT := gT_in 619 (by decide +kernel) (by decide +kernel)
set_option maxRecDepth 20000 in
theorem tSel_X5_X7_X7_heavyWith : (Jvm.Cond.selects "YesterdayScale$Stone" ({ cls := "YesterdayScale$Thing", name := "heavyWith", desc := "(II)I" } : Jvm.MethodName) ({ cls := "YesterdayScale$Thing", name := "heavyWith", desc := "(II)I" } : Jvm.MethodName)) ∈ gT := gT_in 620 (by decide +kernel) (by decide +kernel)
set_option maxRecDepth 20000 in
theorem tSel_X8_X7_X8_heavyWith : (Jvm.Cond.selects "YesterdayScale$Whale" ({ cls := "YesterdayScale$Thing", name := "heavyWith", desc := "(II)I" } : Jvm.MethodName) ({ cls := "YesterdayScale$Whale", name := "heavyWith", desc := "(II)I" } : Jvm.MethodName)) ∈ gT := gT_in 621 (by decide +kernel) (by decide +kernel)
set_option maxRecDepth 20000 in
theorem tI_X8_heavyWith : (Jvm.Cond.instanceMethod ({ cls := "YesterdayScale$Whale", name := "heavyWith", desc := "(II)I" } : Jvm.MethodName)) ∈ gT := gT_in 622 (by decide +kernel) (by decide +kernel)
set_option maxRecDepth 20000 in
theorem tY_X8_heavyWith : (Jvm.Cond.code ({ cls := "YesterdayScale$Whale", name := "heavyWith", desc := "(II)I" } : Jvm.MethodName) prog_10_method_3_code (3 : Nat) (Option.some Jvm.ClassFile.FieldType.int)) ∈ gT := gT_in 623 (by decide +kernel) (by decide +kernel)
set_option maxRecDepth 20000 in
theorem tSel_X9_X7_X9_heavyWith : (Jvm.Cond.selects "YesterdayScale$Wool" ({ cls := "YesterdayScale$Thing", name := "heavyWith", desc := "(II)I" } : Jvm.MethodName) ({ cls := "YesterdayScale$Wool", name := "heavyWith", desc := "(II)I" } : Jvm.MethodName)) ∈ gT := gT_in 624 (by decide +kernel) (by decide +kernel)
set_option maxRecDepth 20000 in
theorem tI_X9_heavyWith : (Jvm.Cond.instanceMethod ({ cls := "YesterdayScale$Wool", name := "heavyWith", desc := "(II)I" } : Jvm.MethodName)) ∈ gT := gT_in 625 (by decide +kernel) (by decide +kernel)
set_option maxRecDepth 20000 in
theorem tY_X9_heavyWith : (Jvm.Cond.code ({ cls := "YesterdayScale$Wool", name := "heavyWith", desc := "(II)I" } : Jvm.MethodName) prog_11_method_3_code (3 : Nat) (Option.some Jvm.ClassFile.FieldType.int)) ∈ gT := gT_in 626 (by decide +kernel) (by decide +kernel)
set_option maxRecDepth 20000 in
theorem tY_X7_heavyWith : (Jvm.Cond.code ({ cls := "YesterdayScale$Thing", name := "heavyWith", desc := "(II)I" } : Jvm.MethodName) prog_9_method_3_code (3 : Nat) (Option.some Jvm.ClassFile.FieldType.int)) ∈ gT := gT_in 627 (by decide +kernel) (by decide +kernel)
set_option maxRecDepth 20000 in
theorem tM_X2_101 : (Jvm.Cond.methodLink "YesterdayScale$Port" (101 : Nat) ({ cls := "YesterdayScale$Port", name := "leftOver", desc := "(II)I" } : Jvm.MethodName)) ∈ gT := gT_in 628 (by decide +kernel) (by decide +kernel)
set_option maxRecDepth 20000 in
theorem tS_X2_leftOver : (Jvm.Cond.static ({ cls := "YesterdayScale$Port", name := "leftOver", desc := "(II)I" } : Jvm.MethodName)) ∈ gT := gT_in 629 (by decide +kernel) (by decide +kernel)
set_option maxRecDepth 20000 in
theorem tY_X2_leftOver : (Jvm.Cond.code ({ cls := "YesterdayScale$Port", name := "leftOver", desc := "(II)I" } : Jvm.MethodName) prog_4_method_20_code (2 : Nat) (Option.some Jvm.ClassFile.FieldType.int)) ∈ gT := gT_in 630 (by decide +kernel) (by decide +kernel)
set_option maxRecDepth 20000 in
theorem tM_L_52 : (Jvm.Cond.methodLink "YesterdayScaleLaw" (52 : Nat) ({ cls := "YesterdayScale", name := "undo", desc := "()I" } : Jvm.MethodName)) ∈ gT := gT_in 631 (by decide +kernel) (by decide +kernel)
set_option maxRecDepth 20000 in
theorem tI_X11_undo : (Jvm.Cond.instanceMethod ({ cls := "YesterdayScale", name := "undo", desc := "()I" } : Jvm.MethodName)) ∈ gT := gT_in 632 (by decide +kernel) (by decide +kernel)
set_option maxRecDepth 20000 in
theorem tSel_X11_X11_X11_undo : (Jvm.Cond.selects "YesterdayScale" ({ cls := "YesterdayScale", name := "undo", desc := "()I" } : Jvm.MethodName) ({ cls := "YesterdayScale", name := "undo", desc := "()I" } : Jvm.MethodName)) ∈ gT := gT_in 633 (by decide +kernel) (by decide +kernel)
set_option maxRecDepth 20000 in
theorem tY_X11_undo : (Jvm.Cond.code ({ cls := "YesterdayScale", name := "undo", desc := "()I" } : Jvm.MethodName) prog_1_method_10_code (1 : Nat) (Option.some Jvm.ClassFile.FieldType.int)) ∈ gT := gT_in 634 (by decide +kernel) (by decide +kernel)
set_option maxRecDepth 20000 in
theorem tM_L_56 : (Jvm.Cond.methodLink "YesterdayScaleLaw" (56 : Nat) ({ cls := "YesterdayScale", name := "shown", desc := "(II)I" } : Jvm.MethodName)) ∈ gT := gT_in 635 (by decide +kernel) (by decide +kernel)
set_option maxRecDepth 20000 in
theorem tI_X11_shown : (Jvm.Cond.instanceMethod ({ cls := "YesterdayScale", name := "shown", desc := "(II)I" } : Jvm.MethodName)) ∈ gT := gT_in 636 (by decide +kernel) (by decide +kernel)
set_option maxRecDepth 20000 in
theorem tSel_X11_X11_X11_shown : (Jvm.Cond.selects "YesterdayScale" ({ cls := "YesterdayScale", name := "shown", desc := "(II)I" } : Jvm.MethodName) ({ cls := "YesterdayScale", name := "shown", desc := "(II)I" } : Jvm.MethodName)) ∈ gT := gT_in 637 (by decide +kernel) (by decide +kernel)
set_option maxRecDepth 20000 in
theorem tY_X11_shown : (Jvm.Cond.code ({ cls := "YesterdayScale", name := "shown", desc := "(II)I" } : Jvm.MethodName) prog_1_method_11_code (3 : Nat) (Option.some Jvm.ClassFile.FieldType.int)) ∈ gT := gT_in 638 (by decide +kernel) (by decide +kernel)
set_option maxRecDepth 20000 in
theorem tM_X11_139 : (Jvm.Cond.methodLink "YesterdayScale" (139 : Nat) ({ cls := "YesterdayScale$Port", name := "hasDay", desc := "(I)Z" } : Jvm.MethodName)) ∈ gT := gT_in 639 (by decide +kernel) (by decide +kernel)
set_option maxRecDepth 20000 in
theorem tI_X2_hasDay : (Jvm.Cond.instanceMethod ({ cls := "YesterdayScale$Port", name := "hasDay", desc := "(I)Z" } : Jvm.MethodName)) ∈ gT := gT_in 640 (by decide +kernel) (by decide +kernel)
set_option maxRecDepth 20000 in
theorem tSel_X2_X2_X2_hasDay : (Jvm.Cond.selects "YesterdayScale$Port" ({ cls := "YesterdayScale$Port", name := "hasDay", desc := "(I)Z" } : Jvm.MethodName) ({ cls := "YesterdayScale$Port", name := "hasDay", desc := "(I)Z" } : Jvm.MethodName)) ∈ gT := gT_in 641 (by decide +kernel) (by decide +kernel)
set_option maxRecDepth 20000 in
theorem tY_X2_hasDay : (Jvm.Cond.code ({ cls := "YesterdayScale$Port", name := "hasDay", desc := "(I)Z" } : Jvm.MethodName) prog_4_method_10_code (2 : Nat) (Option.some Jvm.ClassFile.FieldType.boolean)) ∈ gT := gT_in 642 (by decide +kernel) (by decide +kernel)
set_option maxRecDepth 20000 in
theorem tM_X11_145 : (Jvm.Cond.methodLink "YesterdayScale" (145 : Nat) ({ cls := "YesterdayScale$Port", name := "loadOn", desc := "(I)I" } : Jvm.MethodName)) ∈ gT := gT_in 643 (by decide +kernel) (by decide +kernel)
set_option maxRecDepth 20000 in
theorem tM_X11_148 : (Jvm.Cond.methodLink "YesterdayScale" (148 : Nat) ({ cls := "YesterdayScale$Port", name := "isFresh", desc := "(I)Z" } : Jvm.MethodName)) ∈ gT := gT_in 644 (by decide +kernel) (by decide +kernel)
set_option maxRecDepth 20000 in
theorem tM_L_61 : (Jvm.Cond.methodLink "YesterdayScaleLaw" (61 : Nat) ({ cls := "YesterdayScale", name := "heavy", desc := "(II)I" } : Jvm.MethodName)) ∈ gT := gT_in 645 (by decide +kernel) (by decide +kernel)
set_option maxRecDepth 20000 in
theorem tI_X11_heavy : (Jvm.Cond.instanceMethod ({ cls := "YesterdayScale", name := "heavy", desc := "(II)I" } : Jvm.MethodName)) ∈ gT := gT_in 646 (by decide +kernel) (by decide +kernel)
set_option maxRecDepth 20000 in
theorem tSel_X11_X11_X11_heavy : (Jvm.Cond.selects "YesterdayScale" ({ cls := "YesterdayScale", name := "heavy", desc := "(II)I" } : Jvm.MethodName) ({ cls := "YesterdayScale", name := "heavy", desc := "(II)I" } : Jvm.MethodName)) ∈ gT := gT_in 647 (by decide +kernel) (by decide +kernel)
set_option maxRecDepth 20000 in
theorem tY_X11_heavy : (Jvm.Cond.code ({ cls := "YesterdayScale", name := "heavy", desc := "(II)I" } : Jvm.MethodName) prog_1_method_12_code (4 : Nat) (Option.some Jvm.ClassFile.FieldType.int)) ∈ gT := gT_in 648 (by decide +kernel) (by decide +kernel)
set_option maxRecDepth 20000 in
theorem tM_X11_151 : (Jvm.Cond.methodLink "YesterdayScale" (151 : Nat) ({ cls := "YesterdayScale$Port", name := "thingAt", desc := "(I)LYesterdayScale$Thing;" } : Jvm.MethodName)) ∈ gT := gT_in 649 (by decide +kernel) (by decide +kernel)
set_option maxRecDepth 20000 in
theorem tI_X2_thingAt : (Jvm.Cond.instanceMethod ({ cls := "YesterdayScale$Port", name := "thingAt", desc := "(I)LYesterdayScale$Thing;" } : Jvm.MethodName)) ∈ gT := gT_in 650 (by decide +kernel) (by decide +kernel)
set_option maxRecDepth 20000 in
theorem tSel_X2_X2_X2_thingAt : (Jvm.Cond.selects "YesterdayScale$Port" ({ cls := "YesterdayScale$Port", name := "thingAt", desc := "(I)LYesterdayScale$Thing;" } : Jvm.MethodName) ({ cls := "YesterdayScale$Port", name := "thingAt", desc := "(I)LYesterdayScale$Thing;" } : Jvm.MethodName)) ∈ gT := gT_in 651 (by decide +kernel) (by decide +kernel)
set_option maxRecDepth 20000 in
theorem tY_X2_thingAt : (Jvm.Cond.code ({ cls := "YesterdayScale$Port", name := "thingAt", desc := "(I)LYesterdayScale$Thing;" } : Jvm.MethodName) prog_4_method_9_code (2 : Nat) (Option.some (Jvm.ClassFile.FieldType.object "YesterdayScale$Thing"))) ∈ gT := gT_in 652 (by decide +kernel) (by decide +kernel)
set_option maxRecDepth 20000 in
theorem tM_X11_160 : (Jvm.Cond.methodLink "YesterdayScale" (160 : Nat) ({ cls := "YesterdayScale$Thing", name := "heavyWith", desc := "(II)I" } : Jvm.MethodName)) ∈ gT := gT_in 653 (by decide +kernel) (by decide +kernel)
set_option maxRecDepth 20000 in
theorem tM_L_65 : (Jvm.Cond.methodLink "YesterdayScaleLaw" (65 : Nat) ({ cls := "YesterdayScale", name := "next", desc := "(I)I" } : Jvm.MethodName)) ∈ gT := gT_in 654 (by decide +kernel) (by decide +kernel)
set_option maxRecDepth 20000 in
theorem tI_X11_next : (Jvm.Cond.instanceMethod ({ cls := "YesterdayScale", name := "next", desc := "(I)I" } : Jvm.MethodName)) ∈ gT := gT_in 655 (by decide +kernel) (by decide +kernel)
set_option maxRecDepth 20000 in
theorem tSel_X11_X11_X11_next : (Jvm.Cond.selects "YesterdayScale" ({ cls := "YesterdayScale", name := "next", desc := "(I)I" } : Jvm.MethodName) ({ cls := "YesterdayScale", name := "next", desc := "(I)I" } : Jvm.MethodName)) ∈ gT := gT_in 656 (by decide +kernel) (by decide +kernel)
set_option maxRecDepth 20000 in
theorem tY_X11_next : (Jvm.Cond.code ({ cls := "YesterdayScale", name := "next", desc := "(I)I" } : Jvm.MethodName) prog_1_method_13_code (2 : Nat) (Option.some Jvm.ClassFile.FieldType.int)) ∈ gT := gT_in 657 (by decide +kernel) (by decide +kernel)
set_option maxRecDepth 20000 in
theorem tM_L_69 : (Jvm.Cond.methodLink "YesterdayScaleLaw" (69 : Nat) ({ cls := "YesterdayScale", name := "fits", desc := "(III)I" } : Jvm.MethodName)) ∈ gT := gT_in 658 (by decide +kernel) (by decide +kernel)
set_option maxRecDepth 20000 in
theorem tI_X11_fits : (Jvm.Cond.instanceMethod ({ cls := "YesterdayScale", name := "fits", desc := "(III)I" } : Jvm.MethodName)) ∈ gT := gT_in 659 (by decide +kernel) (by decide +kernel)
set_option maxRecDepth 20000 in
theorem tSel_X11_X11_X11_fits : (Jvm.Cond.selects "YesterdayScale" ({ cls := "YesterdayScale", name := "fits", desc := "(III)I" } : Jvm.MethodName) ({ cls := "YesterdayScale", name := "fits", desc := "(III)I" } : Jvm.MethodName)) ∈ gT := gT_in 660 (by decide +kernel) (by decide +kernel)
set_option maxRecDepth 20000 in
theorem tY_X11_fits : (Jvm.Cond.code ({ cls := "YesterdayScale", name := "fits", desc := "(III)I" } : Jvm.MethodName) prog_1_method_14_code (7 : Nat) (Option.some Jvm.ClassFile.FieldType.int)) ∈ gT := gT_in 661 (by decide +kernel) (by decide +kernel)
set_option maxRecDepth 20000 in
theorem tM_X11_164 : (Jvm.Cond.methodLink "YesterdayScale" (164 : Nat) ({ cls := "YesterdayScale", name := "refusalToTell", desc := "(IZ)I" } : Jvm.MethodName)) ∈ gT := gT_in 662 (by decide +kernel) (by decide +kernel)
set_option maxRecDepth 20000 in
theorem tI_X11_refusalToTell : (Jvm.Cond.instanceMethod ({ cls := "YesterdayScale", name := "refusalToTell", desc := "(IZ)I" } : Jvm.MethodName)) ∈ gT := gT_in 664 (by decide +kernel) (by decide +kernel)
set_option maxRecDepth 20000 in
theorem tY_X11_refusalToTell : (Jvm.Cond.code ({ cls := "YesterdayScale", name := "refusalToTell", desc := "(IZ)I" } : Jvm.MethodName) prog_1_method_35_code (5 : Nat) (Option.some Jvm.ClassFile.FieldType.int)) ∈ gT := gT_in 665 (by decide +kernel) (by decide +kernel)
set_option maxRecDepth 20000 in
theorem tM_X11_168 : (Jvm.Cond.methodLink "YesterdayScale" (168 : Nat) ({ cls := "YesterdayScale$Worlds", name := "begin", desc := "(LYesterdayScale$Port;[I)V" } : Jvm.MethodName)) ∈ gT := gT_in 666 (by decide +kernel) (by decide +kernel)
set_option maxRecDepth 20000 in
theorem tI_X10_begin : (Jvm.Cond.instanceMethod ({ cls := "YesterdayScale$Worlds", name := "begin", desc := "(LYesterdayScale$Port;[I)V" } : Jvm.MethodName)) ∈ gT := gT_in 667 (by decide +kernel) (by decide +kernel)
set_option maxRecDepth 20000 in
theorem tSel_X10_X10_X10_begin : (Jvm.Cond.selects "YesterdayScale$Worlds" ({ cls := "YesterdayScale$Worlds", name := "begin", desc := "(LYesterdayScale$Port;[I)V" } : Jvm.MethodName) ({ cls := "YesterdayScale$Worlds", name := "begin", desc := "(LYesterdayScale$Port;[I)V" } : Jvm.MethodName)) ∈ gT := gT_in 668 (by decide +kernel) (by decide +kernel)
set_option maxRecDepth 20000 in
theorem tY_X10_begin : (Jvm.Cond.code ({ cls := "YesterdayScale$Worlds", name := "begin", desc := "(LYesterdayScale$Port;[I)V" } : Jvm.MethodName) prog_12_method_2_code (3 : Nat) (Option.none : Option Jvm.ClassFile.FieldType)) ∈ gT := gT_in 669 (by decide +kernel) (by decide +kernel)
set_option maxRecDepth 20000 in
theorem tM_X10_27 : (Jvm.Cond.methodLink "YesterdayScale$Worlds" (27 : Nat) ({ cls := "YesterdayScale$Worlds", name := "take", desc := "(LYesterdayScale$Port;)V" } : Jvm.MethodName)) ∈ gT := gT_in 670 (by decide +kernel) (by decide +kernel)
set_option maxRecDepth 20000 in
theorem tI_X10_take : (Jvm.Cond.instanceMethod ({ cls := "YesterdayScale$Worlds", name := "take", desc := "(LYesterdayScale$Port;)V" } : Jvm.MethodName)) ∈ gT := gT_in 672 (by decide +kernel) (by decide +kernel)
set_option maxRecDepth 20000 in
theorem tY_X10_take : (Jvm.Cond.code ({ cls := "YesterdayScale$Worlds", name := "take", desc := "(LYesterdayScale$Port;)V" } : Jvm.MethodName) prog_12_method_3_code (3 : Nat) (Option.none : Option Jvm.ClassFile.FieldType)) ∈ gT := gT_in 673 (by decide +kernel) (by decide +kernel)
set_option maxRecDepth 20000 in
theorem tM_X10_58 : (Jvm.Cond.methodLink "YesterdayScale$Worlds" (58 : Nat) ({ cls := "YesterdayScale$Worlds", name := "takeDay", desc := "(LYesterdayScale$Port;I)V" } : Jvm.MethodName)) ∈ gT := gT_in 674 (by decide +kernel) (by decide +kernel)
set_option maxRecDepth 20000 in
theorem tI_X10_takeDay : (Jvm.Cond.instanceMethod ({ cls := "YesterdayScale$Worlds", name := "takeDay", desc := "(LYesterdayScale$Port;I)V" } : Jvm.MethodName)) ∈ gT := gT_in 676 (by decide +kernel) (by decide +kernel)
set_option maxRecDepth 20000 in
theorem tY_X10_takeDay : (Jvm.Cond.code ({ cls := "YesterdayScale$Worlds", name := "takeDay", desc := "(LYesterdayScale$Port;I)V" } : Jvm.MethodName) prog_12_method_4_code (3 : Nat) (Option.none : Option Jvm.ClassFile.FieldType)) ∈ gT := gT_in 677 (by decide +kernel) (by decide +kernel)
set_option maxRecDepth 20000 in
theorem tM_X10_65 : (Jvm.Cond.methodLink "YesterdayScale$Worlds" (65 : Nat) ({ cls := "YesterdayScale$Port", name := "reachOf", desc := "(II)I" } : Jvm.MethodName)) ∈ gT := gT_in 678 (by decide +kernel) (by decide +kernel)
set_option maxRecDepth 20000 in
theorem tM_X10_69 : (Jvm.Cond.methodLink "YesterdayScale$Worlds" (69 : Nat) ({ cls := "YesterdayScale$Worlds", name := "fillPair", desc := "([ILYesterdayScale$Port;II)V" } : Jvm.MethodName)) ∈ gT := gT_in 679 (by decide +kernel) (by decide +kernel)
set_option maxRecDepth 20000 in
theorem tS_X10_fillPair : (Jvm.Cond.static ({ cls := "YesterdayScale$Worlds", name := "fillPair", desc := "([ILYesterdayScale$Port;II)V" } : Jvm.MethodName)) ∈ gT := gT_in 680 (by decide +kernel) (by decide +kernel)
set_option maxRecDepth 20000 in
theorem tY_X10_fillPair : (Jvm.Cond.code ({ cls := "YesterdayScale$Worlds", name := "fillPair", desc := "([ILYesterdayScale$Port;II)V" } : Jvm.MethodName) prog_12_method_5_code (8 : Nat) (Option.none : Option Jvm.ClassFile.FieldType)) ∈ gT := gT_in 681 (by decide +kernel) (by decide +kernel)
set_option maxRecDepth 20000 in
theorem tM_X10_73 : (Jvm.Cond.methodLink "YesterdayScale$Worlds" (73 : Nat) ({ cls := "YesterdayScale$Worlds", name := "heavyIn", desc := "(LYesterdayScale$Port;III)I" } : Jvm.MethodName)) ∈ gT := gT_in 682 (by decide +kernel) (by decide +kernel)
set_option maxRecDepth 20000 in
theorem tS_X10_heavyIn : (Jvm.Cond.static ({ cls := "YesterdayScale$Worlds", name := "heavyIn", desc := "(LYesterdayScale$Port;III)I" } : Jvm.MethodName)) ∈ gT := gT_in 683 (by decide +kernel) (by decide +kernel)
set_option maxRecDepth 20000 in
theorem tY_X10_heavyIn : (Jvm.Cond.code ({ cls := "YesterdayScale$Worlds", name := "heavyIn", desc := "(LYesterdayScale$Port;III)I" } : Jvm.MethodName) prog_12_method_6_code (5 : Nat) (Option.some Jvm.ClassFile.FieldType.int)) ∈ gT := gT_in 684 (by decide +kernel) (by decide +kernel)
set_option maxRecDepth 20000 in
theorem tM_X10_77 : (Jvm.Cond.methodLink "YesterdayScale$Worlds" (77 : Nat) ({ cls := "YesterdayScale$Port", name := "thingAt", desc := "(I)LYesterdayScale$Thing;" } : Jvm.MethodName)) ∈ gT := gT_in 685 (by decide +kernel) (by decide +kernel)
set_option maxRecDepth 20000 in
theorem tM_X10_81 : (Jvm.Cond.methodLink "YesterdayScale$Worlds" (81 : Nat) ({ cls := "YesterdayScale$Port", name := "liesOn", desc := "(II)Z" } : Jvm.MethodName)) ∈ gT := gT_in 686 (by decide +kernel) (by decide +kernel)
set_option maxRecDepth 20000 in
theorem tM_X10_85 : (Jvm.Cond.methodLink "YesterdayScale$Worlds" (85 : Nat) ({ cls := "YesterdayScale$Thing", name := "heavyWith", desc := "(II)I" } : Jvm.MethodName)) ∈ gT := gT_in 687 (by decide +kernel) (by decide +kernel)
set_option maxRecDepth 20000 in
theorem tM_X10_35 : (Jvm.Cond.methodLink "YesterdayScale$Worlds" (35 : Nat) ({ cls := "java/lang/System", name := "arraycopy", desc := "(Ljava/lang/Object;ILjava/lang/Object;II)V" } : Jvm.MethodName)) ∈ gT := gT_in 688 (by decide +kernel) (by decide +kernel)
set_option maxRecDepth 20000 in
theorem tM_X11_171 : (Jvm.Cond.methodLink "YesterdayScale" (171 : Nat) ({ cls := "YesterdayScale$Worlds", name := "howManyFit", desc := "()I" } : Jvm.MethodName)) ∈ gT := gT_in 689 (by decide +kernel) (by decide +kernel)
set_option maxRecDepth 20000 in
theorem tI_X10_howManyFit : (Jvm.Cond.instanceMethod ({ cls := "YesterdayScale$Worlds", name := "howManyFit", desc := "()I" } : Jvm.MethodName)) ∈ gT := gT_in 690 (by decide +kernel) (by decide +kernel)
set_option maxRecDepth 20000 in
theorem tSel_X10_X10_X10_howManyFit : (Jvm.Cond.selects "YesterdayScale$Worlds" ({ cls := "YesterdayScale$Worlds", name := "howManyFit", desc := "()I" } : Jvm.MethodName) ({ cls := "YesterdayScale$Worlds", name := "howManyFit", desc := "()I" } : Jvm.MethodName)) ∈ gT := gT_in 691 (by decide +kernel) (by decide +kernel)
set_option maxRecDepth 20000 in
theorem tY_X10_howManyFit : (Jvm.Cond.code ({ cls := "YesterdayScale$Worlds", name := "howManyFit", desc := "()I" } : Jvm.MethodName) prog_12_method_10_code (3 : Nat) (Option.some Jvm.ClassFile.FieldType.int)) ∈ gT := gT_in 692 (by decide +kernel) (by decide +kernel)
set_option maxRecDepth 20000 in
theorem tM_X10_96 : (Jvm.Cond.methodLink "YesterdayScale$Worlds" (96 : Nat) ({ cls := "YesterdayScale$Worlds", name := "isFitting", desc := "(I)Z" } : Jvm.MethodName)) ∈ gT := gT_in 693 (by decide +kernel) (by decide +kernel)
set_option maxRecDepth 20000 in
theorem tI_X10_isFitting : (Jvm.Cond.instanceMethod ({ cls := "YesterdayScale$Worlds", name := "isFitting", desc := "(I)Z" } : Jvm.MethodName)) ∈ gT := gT_in 695 (by decide +kernel) (by decide +kernel)
set_option maxRecDepth 20000 in
theorem tY_X10_isFitting : (Jvm.Cond.code ({ cls := "YesterdayScale$Worlds", name := "isFitting", desc := "(I)Z" } : Jvm.MethodName) prog_12_method_9_code (3 : Nat) (Option.some Jvm.ClassFile.FieldType.boolean)) ∈ gT := gT_in 696 (by decide +kernel) (by decide +kernel)
set_option maxRecDepth 20000 in
theorem tM_X10_93 : (Jvm.Cond.methodLink "YesterdayScale$Worlds" (93 : Nat) ({ cls := "YesterdayScale$Worlds", name := "shownIn", desc := "(II)I" } : Jvm.MethodName)) ∈ gT := gT_in 697 (by decide +kernel) (by decide +kernel)
set_option maxRecDepth 20000 in
theorem tI_X10_shownIn : (Jvm.Cond.instanceMethod ({ cls := "YesterdayScale$Worlds", name := "shownIn", desc := "(II)I" } : Jvm.MethodName)) ∈ gT := gT_in 699 (by decide +kernel) (by decide +kernel)
set_option maxRecDepth 20000 in
theorem tY_X10_shownIn : (Jvm.Cond.code ({ cls := "YesterdayScale$Worlds", name := "shownIn", desc := "(II)I" } : Jvm.MethodName) prog_12_method_8_code (9 : Nat) (Option.some Jvm.ClassFile.FieldType.int)) ∈ gT := gT_in 700 (by decide +kernel) (by decide +kernel)
set_option maxRecDepth 20000 in
theorem tM_X10_90 : (Jvm.Cond.methodLink "YesterdayScale$Worlds" (90 : Nat) ({ cls := "YesterdayScale$Port", name := "leftOver", desc := "(II)I" } : Jvm.MethodName)) ∈ gT := gT_in 701 (by decide +kernel) (by decide +kernel)
set_option maxRecDepth 20000 in
theorem tM_X11_175 : (Jvm.Cond.methodLink "YesterdayScale" (175 : Nat) ({ cls := "YesterdayScale$Worlds", name := "howManyFitWith", desc := "(II)I" } : Jvm.MethodName)) ∈ gT := gT_in 702 (by decide +kernel) (by decide +kernel)
set_option maxRecDepth 20000 in
theorem tI_X10_howManyFitWith : (Jvm.Cond.instanceMethod ({ cls := "YesterdayScale$Worlds", name := "howManyFitWith", desc := "(II)I" } : Jvm.MethodName)) ∈ gT := gT_in 703 (by decide +kernel) (by decide +kernel)
set_option maxRecDepth 20000 in
theorem tSel_X10_X10_X10_howManyFitWith : (Jvm.Cond.selects "YesterdayScale$Worlds" ({ cls := "YesterdayScale$Worlds", name := "howManyFitWith", desc := "(II)I" } : Jvm.MethodName) ({ cls := "YesterdayScale$Worlds", name := "howManyFitWith", desc := "(II)I" } : Jvm.MethodName)) ∈ gT := gT_in 704 (by decide +kernel) (by decide +kernel)
set_option maxRecDepth 20000 in
theorem tY_X10_howManyFitWith : (Jvm.Cond.code ({ cls := "YesterdayScale$Worlds", name := "howManyFitWith", desc := "(II)I" } : Jvm.MethodName) prog_12_method_11_code (5 : Nat) (Option.some Jvm.ClassFile.FieldType.int)) ∈ gT := gT_in 705 (by decide +kernel) (by decide +kernel)
set_option maxRecDepth 20000 in
theorem tM_X10_100 : (Jvm.Cond.methodLink "YesterdayScale$Worlds" (100 : Nat) ({ cls := "YesterdayScale$Worlds", name := "weightIn", desc := "(II)I" } : Jvm.MethodName)) ∈ gT := gT_in 706 (by decide +kernel) (by decide +kernel)
set_option maxRecDepth 20000 in
theorem tS_X10_weightIn : (Jvm.Cond.static ({ cls := "YesterdayScale$Worlds", name := "weightIn", desc := "(II)I" } : Jvm.MethodName)) ∈ gT := gT_in 707 (by decide +kernel) (by decide +kernel)
set_option maxRecDepth 20000 in
theorem tY_X10_weightIn : (Jvm.Cond.code ({ cls := "YesterdayScale$Worlds", name := "weightIn", desc := "(II)I" } : Jvm.MethodName) prog_12_method_7_code (2 : Nat) (Option.some Jvm.ClassFile.FieldType.int)) ∈ gT := gT_in 708 (by decide +kernel) (by decide +kernel)
set_option maxRecDepth 20000 in
theorem tM_L_73 : (Jvm.Cond.methodLink "YesterdayScaleLaw" (73 : Nat) ({ cls := "YesterdayScale", name := "sure", desc := "(II)I" } : Jvm.MethodName)) ∈ gT := gT_in 709 (by decide +kernel) (by decide +kernel)
set_option maxRecDepth 20000 in
theorem tI_X11_sure : (Jvm.Cond.instanceMethod ({ cls := "YesterdayScale", name := "sure", desc := "(II)I" } : Jvm.MethodName)) ∈ gT := gT_in 710 (by decide +kernel) (by decide +kernel)
set_option maxRecDepth 20000 in
theorem tSel_X11_X11_X11_sure : (Jvm.Cond.selects "YesterdayScale" ({ cls := "YesterdayScale", name := "sure", desc := "(II)I" } : Jvm.MethodName) ({ cls := "YesterdayScale", name := "sure", desc := "(II)I" } : Jvm.MethodName)) ∈ gT := gT_in 711 (by decide +kernel) (by decide +kernel)
set_option maxRecDepth 20000 in
theorem tY_X11_sure : (Jvm.Cond.code ({ cls := "YesterdayScale", name := "sure", desc := "(II)I" } : Jvm.MethodName) prog_1_method_15_code (4 : Nat) (Option.some Jvm.ClassFile.FieldType.int)) ∈ gT := gT_in 712 (by decide +kernel) (by decide +kernel)
set_option maxRecDepth 20000 in
theorem tM_X11_178 : (Jvm.Cond.methodLink "YesterdayScale" (178 : Nat) ({ cls := "YesterdayScale$Worlds", name := "sureWeight", desc := "(I)I" } : Jvm.MethodName)) ∈ gT := gT_in 713 (by decide +kernel) (by decide +kernel)
set_option maxRecDepth 20000 in
theorem tI_X10_sureWeight : (Jvm.Cond.instanceMethod ({ cls := "YesterdayScale$Worlds", name := "sureWeight", desc := "(I)I" } : Jvm.MethodName)) ∈ gT := gT_in 714 (by decide +kernel) (by decide +kernel)
set_option maxRecDepth 20000 in
theorem tSel_X10_X10_X10_sureWeight : (Jvm.Cond.selects "YesterdayScale$Worlds" ({ cls := "YesterdayScale$Worlds", name := "sureWeight", desc := "(I)I" } : Jvm.MethodName) ({ cls := "YesterdayScale$Worlds", name := "sureWeight", desc := "(I)I" } : Jvm.MethodName)) ∈ gT := gT_in 715 (by decide +kernel) (by decide +kernel)
set_option maxRecDepth 20000 in
theorem tY_X10_sureWeight : (Jvm.Cond.code ({ cls := "YesterdayScale$Worlds", name := "sureWeight", desc := "(I)I" } : Jvm.MethodName) prog_12_method_12_code (5 : Nat) (Option.some Jvm.ClassFile.FieldType.int)) ∈ gT := gT_in 716 (by decide +kernel) (by decide +kernel)
set_option maxRecDepth 20000 in
theorem tK_X10_103 : (Jvm.Cond.constant "YesterdayScale$Worlds" (103 : Nat) (-1000000 : Int32)) ∈ gT := gT_in 717 (by decide +kernel) (by decide +kernel)
set_option maxRecDepth 20000 in
theorem tM_L_77 : (Jvm.Cond.methodLink "YesterdayScaleLaw" (77 : Nat) ({ cls := "YesterdayScale", name := "gap", desc := "(II)I" } : Jvm.MethodName)) ∈ gT := gT_in 718 (by decide +kernel) (by decide +kernel)
set_option maxRecDepth 20000 in
theorem tI_X11_gap : (Jvm.Cond.instanceMethod ({ cls := "YesterdayScale", name := "gap", desc := "(II)I" } : Jvm.MethodName)) ∈ gT := gT_in 719 (by decide +kernel) (by decide +kernel)
set_option maxRecDepth 20000 in
theorem tSel_X11_X11_X11_gap : (Jvm.Cond.selects "YesterdayScale" ({ cls := "YesterdayScale", name := "gap", desc := "(II)I" } : Jvm.MethodName) ({ cls := "YesterdayScale", name := "gap", desc := "(II)I" } : Jvm.MethodName)) ∈ gT := gT_in 720 (by decide +kernel) (by decide +kernel)
set_option maxRecDepth 20000 in
theorem tY_X11_gap : (Jvm.Cond.code ({ cls := "YesterdayScale", name := "gap", desc := "(II)I" } : Jvm.MethodName) prog_1_method_16_code (4 : Nat) (Option.some Jvm.ClassFile.FieldType.int)) ∈ gT := gT_in 721 (by decide +kernel) (by decide +kernel)
set_option maxRecDepth 20000 in
theorem tM_X11_181 : (Jvm.Cond.methodLink "YesterdayScale" (181 : Nat) ({ cls := "YesterdayScale$Worlds", name := "sureShown", desc := "(I)I" } : Jvm.MethodName)) ∈ gT := gT_in 722 (by decide +kernel) (by decide +kernel)
set_option maxRecDepth 20000 in
theorem tI_X10_sureShown : (Jvm.Cond.instanceMethod ({ cls := "YesterdayScale$Worlds", name := "sureShown", desc := "(I)I" } : Jvm.MethodName)) ∈ gT := gT_in 723 (by decide +kernel) (by decide +kernel)
set_option maxRecDepth 20000 in
theorem tSel_X10_X10_X10_sureShown : (Jvm.Cond.selects "YesterdayScale$Worlds" ({ cls := "YesterdayScale$Worlds", name := "sureShown", desc := "(I)I" } : Jvm.MethodName) ({ cls := "YesterdayScale$Worlds", name := "sureShown", desc := "(I)I" } : Jvm.MethodName)) ∈ gT := gT_in 724 (by decide +kernel) (by decide +kernel)
set_option maxRecDepth 20000 in
theorem tY_X10_sureShown : (Jvm.Cond.code ({ cls := "YesterdayScale$Worlds", name := "sureShown", desc := "(I)I" } : Jvm.MethodName) prog_12_method_13_code (5 : Nat) (Option.some Jvm.ClassFile.FieldType.int)) ∈ gT := gT_in 725 (by decide +kernel) (by decide +kernel)
set_option maxRecDepth 20000 in
theorem tM_L_81 : (Jvm.Cond.methodLink "YesterdayScaleLaw" (81 : Nat) ({ cls := "YesterdayScale", name := "wrong", desc := "(II)I" } : Jvm.MethodName)) ∈ gT := gT_in 726 (by decide +kernel) (by decide +kernel)
set_option maxRecDepth 20000 in
theorem tI_X11_wrong : (Jvm.Cond.instanceMethod ({ cls := "YesterdayScale", name := "wrong", desc := "(II)I" } : Jvm.MethodName)) ∈ gT := gT_in 727 (by decide +kernel) (by decide +kernel)
set_option maxRecDepth 20000 in
theorem tSel_X11_X11_X11_wrong : (Jvm.Cond.selects "YesterdayScale" ({ cls := "YesterdayScale", name := "wrong", desc := "(II)I" } : Jvm.MethodName) ({ cls := "YesterdayScale", name := "wrong", desc := "(II)I" } : Jvm.MethodName)) ∈ gT := gT_in 728 (by decide +kernel) (by decide +kernel)
set_option maxRecDepth 20000 in
theorem tY_X11_wrong : (Jvm.Cond.code ({ cls := "YesterdayScale", name := "wrong", desc := "(II)I" } : Jvm.MethodName) prog_1_method_17_code (5 : Nat) (Option.some Jvm.ClassFile.FieldType.int)) ∈ gT := gT_in 729 (by decide +kernel) (by decide +kernel)
set_option maxRecDepth 20000 in
theorem tM_X11_184 : (Jvm.Cond.methodLink "YesterdayScale" (184 : Nat) ({ cls := "YesterdayScale$Worlds", name := "fewestFalse", desc := "()I" } : Jvm.MethodName)) ∈ gT := gT_in 730 (by decide +kernel) (by decide +kernel)
set_option maxRecDepth 20000 in
theorem tI_X10_fewestFalse : (Jvm.Cond.instanceMethod ({ cls := "YesterdayScale$Worlds", name := "fewestFalse", desc := "()I" } : Jvm.MethodName)) ∈ gT := gT_in 731 (by decide +kernel) (by decide +kernel)
set_option maxRecDepth 20000 in
theorem tSel_X10_X10_X10_fewestFalse : (Jvm.Cond.selects "YesterdayScale$Worlds" ({ cls := "YesterdayScale$Worlds", name := "fewestFalse", desc := "()I" } : Jvm.MethodName) ({ cls := "YesterdayScale$Worlds", name := "fewestFalse", desc := "()I" } : Jvm.MethodName)) ∈ gT := gT_in 732 (by decide +kernel) (by decide +kernel)
set_option maxRecDepth 20000 in
theorem tY_X10_fewestFalse : (Jvm.Cond.code ({ cls := "YesterdayScale$Worlds", name := "fewestFalse", desc := "()I" } : Jvm.MethodName) prog_12_method_14_code (6 : Nat) (Option.some Jvm.ClassFile.FieldType.int)) ∈ gT := gT_in 733 (by decide +kernel) (by decide +kernel)
set_option maxRecDepth 20000 in
theorem tM_X10_104 : (Jvm.Cond.methodLink "YesterdayScale$Worlds" (104 : Nat) ({ cls := "YesterdayScale$Worlds", name := "falseIn", desc := "(II)I" } : Jvm.MethodName)) ∈ gT := gT_in 734 (by decide +kernel) (by decide +kernel)
set_option maxRecDepth 20000 in
theorem tI_X10_falseIn : (Jvm.Cond.instanceMethod ({ cls := "YesterdayScale$Worlds", name := "falseIn", desc := "(II)I" } : Jvm.MethodName)) ∈ gT := gT_in 736 (by decide +kernel) (by decide +kernel)
set_option maxRecDepth 20000 in
theorem tY_X10_falseIn : (Jvm.Cond.code ({ cls := "YesterdayScale$Worlds", name := "falseIn", desc := "(II)I" } : Jvm.MethodName) prog_12_method_15_code (6 : Nat) (Option.some Jvm.ClassFile.FieldType.int)) ∈ gT := gT_in 737 (by decide +kernel) (by decide +kernel)
set_option maxRecDepth 20000 in
theorem tM_X10_107 : (Jvm.Cond.methodLink "YesterdayScale$Worlds" (107 : Nat) ({ cls := "java/lang/Integer", name := "bitCount", desc := "(I)I" } : Jvm.MethodName)) ∈ gT := gT_in 738 (by decide +kernel) (by decide +kernel)
set_option maxRecDepth 20000 in
theorem tS_J6_bitCount_0f7a4 : (Jvm.Cond.static ({ cls := "java/lang/Integer", name := "bitCount", desc := "(I)I" } : Jvm.MethodName)) ∈ gT := gT_in 739 (by decide +kernel) (by decide +kernel)
set_option maxRecDepth 20000 in
theorem tY_J6_bitCount_0f7a4 : (Jvm.Cond.code ({ cls := "java/lang/Integer", name := "bitCount", desc := "(I)I" } : Jvm.MethodName) prog_15_method_49_code (1 : Nat) (Option.some Jvm.ClassFile.FieldType.int)) ∈ gT := gT_in 740 (by decide +kernel) (by decide +kernel)
set_option maxRecDepth 20000 in
theorem tK_J6_265 : (Jvm.Cond.constant "java/lang/Integer" (265 : Nat) (1431655765 : Int32)) ∈ gT := gT_in 741 (by decide +kernel) (by decide +kernel)
set_option maxRecDepth 20000 in
theorem tK_J6_266 : (Jvm.Cond.constant "java/lang/Integer" (266 : Nat) (858993459 : Int32)) ∈ gT := gT_in 742 (by decide +kernel) (by decide +kernel)
set_option maxRecDepth 20000 in
theorem tK_J6_267 : (Jvm.Cond.constant "java/lang/Integer" (267 : Nat) (252645135 : Int32)) ∈ gT := gT_in 743 (by decide +kernel) (by decide +kernel)
set_option maxRecDepth 20000 in
theorem tM_X11_187 : (Jvm.Cond.methodLink "YesterdayScale" (187 : Nat) ({ cls := "java/lang/Integer", name := "bitCount", desc := "(I)I" } : Jvm.MethodName)) ∈ gT := gT_in 744 (by decide +kernel) (by decide +kernel)
set_option maxRecDepth 20000 in
theorem tM_L_85 : (Jvm.Cond.methodLink "YesterdayScaleLaw" (85 : Nat) ({ cls := "YesterdayScale", name := "soon", desc := "(I)I" } : Jvm.MethodName)) ∈ gT := gT_in 745 (by decide +kernel) (by decide +kernel)
set_option maxRecDepth 20000 in
theorem tI_X11_soon : (Jvm.Cond.instanceMethod ({ cls := "YesterdayScale", name := "soon", desc := "(I)I" } : Jvm.MethodName)) ∈ gT := gT_in 746 (by decide +kernel) (by decide +kernel)
set_option maxRecDepth 20000 in
theorem tSel_X11_X11_X11_soon : (Jvm.Cond.selects "YesterdayScale" ({ cls := "YesterdayScale", name := "soon", desc := "(I)I" } : Jvm.MethodName) ({ cls := "YesterdayScale", name := "soon", desc := "(I)I" } : Jvm.MethodName)) ∈ gT := gT_in 747 (by decide +kernel) (by decide +kernel)
set_option maxRecDepth 20000 in
theorem tY_X11_soon : (Jvm.Cond.code ({ cls := "YesterdayScale", name := "soon", desc := "(I)I" } : Jvm.MethodName) prog_1_method_18_code (2 : Nat) (Option.some Jvm.ClassFile.FieldType.int)) ∈ gT := gT_in 748 (by decide +kernel) (by decide +kernel)
set_option maxRecDepth 20000 in
theorem tM_X11_192 : (Jvm.Cond.methodLink "YesterdayScale" (192 : Nat) ({ cls := "YesterdayScale$Worlds", name := "learnSoon", desc := "(LYesterdayScale$Port;)V" } : Jvm.MethodName)) ∈ gT := gT_in 749 (by decide +kernel) (by decide +kernel)
set_option maxRecDepth 20000 in
theorem tI_X10_learnSoon : (Jvm.Cond.instanceMethod ({ cls := "YesterdayScale$Worlds", name := "learnSoon", desc := "(LYesterdayScale$Port;)V" } : Jvm.MethodName)) ∈ gT := gT_in 750 (by decide +kernel) (by decide +kernel)
set_option maxRecDepth 20000 in
theorem tSel_X10_X10_X10_learnSoon : (Jvm.Cond.selects "YesterdayScale$Worlds" ({ cls := "YesterdayScale$Worlds", name := "learnSoon", desc := "(LYesterdayScale$Port;)V" } : Jvm.MethodName) ({ cls := "YesterdayScale$Worlds", name := "learnSoon", desc := "(LYesterdayScale$Port;)V" } : Jvm.MethodName)) ∈ gT := gT_in 751 (by decide +kernel) (by decide +kernel)
set_option maxRecDepth 20000 in
theorem tY_X10_learnSoon : (Jvm.Cond.code ({ cls := "YesterdayScale$Worlds", name := "learnSoon", desc := "(LYesterdayScale$Port;)V" } : Jvm.MethodName) prog_12_method_18_code (4 : Nat) (Option.none : Option Jvm.ClassFile.FieldType)) ∈ gT := gT_in 752 (by decide +kernel) (by decide +kernel)
set_option maxRecDepth 20000 in
theorem tM_X10_126 : (Jvm.Cond.methodLink "YesterdayScale$Worlds" (126 : Nat) ({ cls := "YesterdayScale$Worlds", name := "gatherTrue", desc := "(LYesterdayScale$Port;)I" } : Jvm.MethodName)) ∈ gT := gT_in 753 (by decide +kernel) (by decide +kernel)
set_option maxRecDepth 20000 in
theorem tI_X10_gatherTrue : (Jvm.Cond.instanceMethod ({ cls := "YesterdayScale$Worlds", name := "gatherTrue", desc := "(LYesterdayScale$Port;)I" } : Jvm.MethodName)) ∈ gT := gT_in 755 (by decide +kernel) (by decide +kernel)
set_option maxRecDepth 20000 in
theorem tY_X10_gatherTrue : (Jvm.Cond.code ({ cls := "YesterdayScale$Worlds", name := "gatherTrue", desc := "(LYesterdayScale$Port;)I" } : Jvm.MethodName) prog_12_method_20_code (4 : Nat) (Option.some Jvm.ClassFile.FieldType.int)) ∈ gT := gT_in 756 (by decide +kernel) (by decide +kernel)
set_option maxRecDepth 20000 in
theorem tM_X10_148 : (Jvm.Cond.methodLink "YesterdayScale$Worlds" (148 : Nat) ({ cls := "YesterdayScale$Port", name := "shownOn", desc := "(I)I" } : Jvm.MethodName)) ∈ gT := gT_in 757 (by decide +kernel) (by decide +kernel)
set_option maxRecDepth 20000 in
theorem tM_X10_130 : (Jvm.Cond.methodLink "YesterdayScale$Worlds" (130 : Nat) ({ cls := "YesterdayScale$Worlds", name := "worldOf", desc := "(LYesterdayScale$Port;)I" } : Jvm.MethodName)) ∈ gT := gT_in 758 (by decide +kernel) (by decide +kernel)
set_option maxRecDepth 20000 in
theorem tS_X10_worldOf : (Jvm.Cond.static ({ cls := "YesterdayScale$Worlds", name := "worldOf", desc := "(LYesterdayScale$Port;)I" } : Jvm.MethodName)) ∈ gT := gT_in 759 (by decide +kernel) (by decide +kernel)
set_option maxRecDepth 20000 in
theorem tY_X10_worldOf : (Jvm.Cond.code ({ cls := "YesterdayScale$Worlds", name := "worldOf", desc := "(LYesterdayScale$Port;)I" } : Jvm.MethodName) prog_12_method_19_code (4 : Nat) (Option.some Jvm.ClassFile.FieldType.int)) ∈ gT := gT_in 760 (by decide +kernel) (by decide +kernel)
set_option maxRecDepth 20000 in
theorem tM_X10_133 : (Jvm.Cond.methodLink "YesterdayScale$Worlds" (133 : Nat) ({ cls := "YesterdayScale$Worlds", name := "findOneDay", desc := "(LYesterdayScale$Port;II)Z" } : Jvm.MethodName)) ∈ gT := gT_in 761 (by decide +kernel) (by decide +kernel)
set_option maxRecDepth 20000 in
theorem tI_X10_findOneDay : (Jvm.Cond.instanceMethod ({ cls := "YesterdayScale$Worlds", name := "findOneDay", desc := "(LYesterdayScale$Port;II)Z" } : Jvm.MethodName)) ∈ gT := gT_in 763 (by decide +kernel) (by decide +kernel)
set_option maxRecDepth 20000 in
theorem tY_X10_findOneDay : (Jvm.Cond.code ({ cls := "YesterdayScale$Worlds", name := "findOneDay", desc := "(LYesterdayScale$Port;II)Z" } : Jvm.MethodName) prog_12_method_22_code (5 : Nat) (Option.some Jvm.ClassFile.FieldType.boolean)) ∈ gT := gT_in 764 (by decide +kernel) (by decide +kernel)
set_option maxRecDepth 20000 in
theorem tM_X10_154 : (Jvm.Cond.methodLink "YesterdayScale$Worlds" (154 : Nat) ({ cls := "YesterdayScale$Port", name := "allThings", desc := "()I" } : Jvm.MethodName)) ∈ gT := gT_in 765 (by decide +kernel) (by decide +kernel)
set_option maxRecDepth 20000 in
theorem tM_X10_158 : (Jvm.Cond.methodLink "YesterdayScale$Worlds" (158 : Nat) ({ cls := "YesterdayScale$Worlds", name := "tryDay", desc := "(LYesterdayScale$Port;II)V" } : Jvm.MethodName)) ∈ gT := gT_in 766 (by decide +kernel) (by decide +kernel)
set_option maxRecDepth 20000 in
theorem tI_X10_tryDay : (Jvm.Cond.instanceMethod ({ cls := "YesterdayScale$Worlds", name := "tryDay", desc := "(LYesterdayScale$Port;II)V" } : Jvm.MethodName)) ∈ gT := gT_in 768 (by decide +kernel) (by decide +kernel)
set_option maxRecDepth 20000 in
theorem tY_X10_tryDay : (Jvm.Cond.code ({ cls := "YesterdayScale$Worlds", name := "tryDay", desc := "(LYesterdayScale$Port;II)V" } : Jvm.MethodName) prog_12_method_21_code (4 : Nat) (Option.none : Option Jvm.ClassFile.FieldType)) ∈ gT := gT_in 769 (by decide +kernel) (by decide +kernel)
set_option maxRecDepth 20000 in
theorem tM_X10_161 : (Jvm.Cond.methodLink "YesterdayScale$Worlds" (161 : Nat) ({ cls := "YesterdayScale$Worlds", name := "isAlone", desc := "(III)Z" } : Jvm.MethodName)) ∈ gT := gT_in 770 (by decide +kernel) (by decide +kernel)
set_option maxRecDepth 20000 in
theorem tI_X10_isAlone : (Jvm.Cond.instanceMethod ({ cls := "YesterdayScale$Worlds", name := "isAlone", desc := "(III)Z" } : Jvm.MethodName)) ∈ gT := gT_in 772 (by decide +kernel) (by decide +kernel)
set_option maxRecDepth 20000 in
theorem tY_X10_isAlone : (Jvm.Cond.code ({ cls := "YesterdayScale$Worlds", name := "isAlone", desc := "(III)Z" } : Jvm.MethodName) prog_12_method_24_code (6 : Nat) (Option.some Jvm.ClassFile.FieldType.boolean)) ∈ gT := gT_in 773 (by decide +kernel) (by decide +kernel)
set_option maxRecDepth 20000 in
theorem tM_X10_137 : (Jvm.Cond.methodLink "YesterdayScale$Worlds" (137 : Nat) ({ cls := "YesterdayScale$Worlds", name := "findTwoDays", desc := "(LYesterdayScale$Port;II)V" } : Jvm.MethodName)) ∈ gT := gT_in 774 (by decide +kernel) (by decide +kernel)
set_option maxRecDepth 20000 in
theorem tI_X10_findTwoDays : (Jvm.Cond.instanceMethod ({ cls := "YesterdayScale$Worlds", name := "findTwoDays", desc := "(LYesterdayScale$Port;II)V" } : Jvm.MethodName)) ∈ gT := gT_in 776 (by decide +kernel) (by decide +kernel)
set_option maxRecDepth 20000 in
theorem tY_X10_findTwoDays : (Jvm.Cond.code ({ cls := "YesterdayScale$Worlds", name := "findTwoDays", desc := "(LYesterdayScale$Port;II)V" } : Jvm.MethodName) prog_12_method_23_code (7 : Nat) (Option.none : Option Jvm.ClassFile.FieldType)) ∈ gT := gT_in 777 (by decide +kernel) (by decide +kernel)
set_option maxRecDepth 20000 in
theorem tM_X10_165 : (Jvm.Cond.methodLink "YesterdayScale$Worlds" (165 : Nat) ({ cls := "YesterdayScale$Worlds", name := "bringForward", desc := "(II)I" } : Jvm.MethodName)) ∈ gT := gT_in 778 (by decide +kernel) (by decide +kernel)
set_option maxRecDepth 20000 in
theorem tI_X10_bringForward : (Jvm.Cond.instanceMethod ({ cls := "YesterdayScale$Worlds", name := "bringForward", desc := "(II)I" } : Jvm.MethodName)) ∈ gT := gT_in 780 (by decide +kernel) (by decide +kernel)
set_option maxRecDepth 20000 in
theorem tY_X10_bringForward : (Jvm.Cond.code ({ cls := "YesterdayScale$Worlds", name := "bringForward", desc := "(II)I" } : Jvm.MethodName) prog_12_method_25_code (7 : Nat) (Option.some Jvm.ClassFile.FieldType.int)) ∈ gT := gT_in 781 (by decide +kernel) (by decide +kernel)
set_option maxRecDepth 20000 in
theorem tM_X11_198 : (Jvm.Cond.methodLink "YesterdayScale" (198 : Nat) ({ cls := "YesterdayScale$Worlds", name := "soonSet", desc := "(I)I" } : Jvm.MethodName)) ∈ gT := gT_in 782 (by decide +kernel) (by decide +kernel)
set_option maxRecDepth 20000 in
theorem tI_X10_soonSet : (Jvm.Cond.instanceMethod ({ cls := "YesterdayScale$Worlds", name := "soonSet", desc := "(I)I" } : Jvm.MethodName)) ∈ gT := gT_in 783 (by decide +kernel) (by decide +kernel)
set_option maxRecDepth 20000 in
theorem tSel_X10_X10_X10_soonSet : (Jvm.Cond.selects "YesterdayScale$Worlds" ({ cls := "YesterdayScale$Worlds", name := "soonSet", desc := "(I)I" } : Jvm.MethodName) ({ cls := "YesterdayScale$Worlds", name := "soonSet", desc := "(I)I" } : Jvm.MethodName)) ∈ gT := gT_in 784 (by decide +kernel) (by decide +kernel)
set_option maxRecDepth 20000 in
theorem tY_X10_soonSet : (Jvm.Cond.code ({ cls := "YesterdayScale$Worlds", name := "soonSet", desc := "(I)I" } : Jvm.MethodName) prog_12_method_17_code (2 : Nat) (Option.some Jvm.ClassFile.FieldType.int)) ∈ gT := gT_in 785 (by decide +kernel) (by decide +kernel)
set_option maxRecDepth 20000 in
theorem tM_L_89 : (Jvm.Cond.methodLink "YesterdayScaleLaw" (89 : Nat) ({ cls := "YesterdayScale", name := "laws", desc := "(I)I" } : Jvm.MethodName)) ∈ gT := gT_in 786 (by decide +kernel) (by decide +kernel)
set_option maxRecDepth 20000 in
theorem tI_X11_laws : (Jvm.Cond.instanceMethod ({ cls := "YesterdayScale", name := "laws", desc := "(I)I" } : Jvm.MethodName)) ∈ gT := gT_in 787 (by decide +kernel) (by decide +kernel)
set_option maxRecDepth 20000 in
theorem tSel_X11_X11_X11_laws : (Jvm.Cond.selects "YesterdayScale" ({ cls := "YesterdayScale", name := "laws", desc := "(I)I" } : Jvm.MethodName) ({ cls := "YesterdayScale", name := "laws", desc := "(I)I" } : Jvm.MethodName)) ∈ gT := gT_in 788 (by decide +kernel) (by decide +kernel)
set_option maxRecDepth 20000 in
theorem tY_X11_laws : (Jvm.Cond.code ({ cls := "YesterdayScale", name := "laws", desc := "(I)I" } : Jvm.MethodName) prog_1_method_19_code (3 : Nat) (Option.some Jvm.ClassFile.FieldType.int)) ∈ gT := gT_in 789 (by decide +kernel) (by decide +kernel)
set_option maxRecDepth 20000 in
theorem tM_X11_201 : (Jvm.Cond.methodLink "YesterdayScale" (201 : Nat) ({ cls := "YesterdayScale$Port", name := "lawsTelling", desc := "([I)I" } : Jvm.MethodName)) ∈ gT := gT_in 790 (by decide +kernel) (by decide +kernel)
set_option maxRecDepth 20000 in
theorem tI_X2_lawsTelling : (Jvm.Cond.instanceMethod ({ cls := "YesterdayScale$Port", name := "lawsTelling", desc := "([I)I" } : Jvm.MethodName)) ∈ gT := gT_in 791 (by decide +kernel) (by decide +kernel)
set_option maxRecDepth 20000 in
theorem tSel_X2_X2_X2_lawsTelling : (Jvm.Cond.selects "YesterdayScale$Port" ({ cls := "YesterdayScale$Port", name := "lawsTelling", desc := "([I)I" } : Jvm.MethodName) ({ cls := "YesterdayScale$Port", name := "lawsTelling", desc := "([I)I" } : Jvm.MethodName)) ∈ gT := gT_in 792 (by decide +kernel) (by decide +kernel)
set_option maxRecDepth 20000 in
theorem tY_X2_lawsTelling : (Jvm.Cond.code ({ cls := "YesterdayScale$Port", name := "lawsTelling", desc := "([I)I" } : Jvm.MethodName) prog_4_method_18_code (4 : Nat) (Option.some Jvm.ClassFile.FieldType.int)) ∈ gT := gT_in 793 (by decide +kernel) (by decide +kernel)
set_option maxRecDepth 20000 in
theorem tM_X2_107 : (Jvm.Cond.methodLink "YesterdayScale$Port" (107 : Nat) ({ cls := "YesterdayScale$Port", name := "tellsBy", desc := "(II[I)Z" } : Jvm.MethodName)) ∈ gT := gT_in 794 (by decide +kernel) (by decide +kernel)
set_option maxRecDepth 20000 in
theorem tI_X2_tellsBy : (Jvm.Cond.instanceMethod ({ cls := "YesterdayScale$Port", name := "tellsBy", desc := "(II[I)Z" } : Jvm.MethodName)) ∈ gT := gT_in 796 (by decide +kernel) (by decide +kernel)
set_option maxRecDepth 20000 in
theorem tY_X2_tellsBy : (Jvm.Cond.code ({ cls := "YesterdayScale$Port", name := "tellsBy", desc := "(II[I)Z" } : Jvm.MethodName) prog_4_method_19_code (5 : Nat) (Option.some Jvm.ClassFile.FieldType.boolean)) ∈ gT := gT_in 797 (by decide +kernel) (by decide +kernel)
set_option maxRecDepth 20000 in
theorem tM_L_93 : (Jvm.Cond.methodLink "YesterdayScaleLaw" (93 : Nat) ({ cls := "YesterdayScale", name := "error", desc := "(I)I" } : Jvm.MethodName)) ∈ gT := gT_in 798 (by decide +kernel) (by decide +kernel)
set_option maxRecDepth 20000 in
theorem tI_X11_error : (Jvm.Cond.instanceMethod ({ cls := "YesterdayScale", name := "error", desc := "(I)I" } : Jvm.MethodName)) ∈ gT := gT_in 799 (by decide +kernel) (by decide +kernel)
set_option maxRecDepth 20000 in
theorem tSel_X11_X11_X11_error : (Jvm.Cond.selects "YesterdayScale" ({ cls := "YesterdayScale", name := "error", desc := "(I)I" } : Jvm.MethodName) ({ cls := "YesterdayScale", name := "error", desc := "(I)I" } : Jvm.MethodName)) ∈ gT := gT_in 800 (by decide +kernel) (by decide +kernel)
set_option maxRecDepth 20000 in
theorem tY_X11_error : (Jvm.Cond.code ({ cls := "YesterdayScale", name := "error", desc := "(I)I" } : Jvm.MethodName) prog_1_method_20_code (2 : Nat) (Option.some Jvm.ClassFile.FieldType.int)) ∈ gT := gT_in 801 (by decide +kernel) (by decide +kernel)
set_option maxRecDepth 20000 in
theorem tM_X11_205 : (Jvm.Cond.methodLink "YesterdayScale" (205 : Nat) ({ cls := "YesterdayScale$Port", name := "changedBy", desc := "(I)I" } : Jvm.MethodName)) ∈ gT := gT_in 802 (by decide +kernel) (by decide +kernel)
set_option maxRecDepth 20000 in
theorem tI_X2_changedBy : (Jvm.Cond.instanceMethod ({ cls := "YesterdayScale$Port", name := "changedBy", desc := "(I)I" } : Jvm.MethodName)) ∈ gT := gT_in 803 (by decide +kernel) (by decide +kernel)
set_option maxRecDepth 20000 in
theorem tSel_X2_X2_X2_changedBy : (Jvm.Cond.selects "YesterdayScale$Port" ({ cls := "YesterdayScale$Port", name := "changedBy", desc := "(I)I" } : Jvm.MethodName) ({ cls := "YesterdayScale$Port", name := "changedBy", desc := "(I)I" } : Jvm.MethodName)) ∈ gT := gT_in 804 (by decide +kernel) (by decide +kernel)
set_option maxRecDepth 20000 in
theorem tY_X2_changedBy : (Jvm.Cond.code ({ cls := "YesterdayScale$Port", name := "changedBy", desc := "(I)I" } : Jvm.MethodName) prog_4_method_17_code (4 : Nat) (Option.some Jvm.ClassFile.FieldType.int)) ∈ gT := gT_in 805 (by decide +kernel) (by decide +kernel)
set_option maxRecDepth 20000 in
theorem tM_X2_104 : (Jvm.Cond.methodLink "YesterdayScale$Port" (104 : Nat) ({ cls := "YesterdayScale$Port", name := "shownOn", desc := "(I)I" } : Jvm.MethodName)) ∈ gT := gT_in 806 (by decide +kernel) (by decide +kernel)
set_option maxRecDepth 20000 in
theorem tM_L_97 : (Jvm.Cond.methodLink "YesterdayScaleLaw" (97 : Nat) ({ cls := "YesterdayScale", name := "sold", desc := "(II)I" } : Jvm.MethodName)) ∈ gT := gT_in 807 (by decide +kernel) (by decide +kernel)
set_option maxRecDepth 20000 in
theorem tI_X11_sold : (Jvm.Cond.instanceMethod ({ cls := "YesterdayScale", name := "sold", desc := "(II)I" } : Jvm.MethodName)) ∈ gT := gT_in 808 (by decide +kernel) (by decide +kernel)
set_option maxRecDepth 20000 in
theorem tSel_X11_X11_X11_sold : (Jvm.Cond.selects "YesterdayScale" ({ cls := "YesterdayScale", name := "sold", desc := "(II)I" } : Jvm.MethodName) ({ cls := "YesterdayScale", name := "sold", desc := "(II)I" } : Jvm.MethodName)) ∈ gT := gT_in 809 (by decide +kernel) (by decide +kernel)
set_option maxRecDepth 20000 in
theorem tY_X11_sold : (Jvm.Cond.code ({ cls := "YesterdayScale", name := "sold", desc := "(II)I" } : Jvm.MethodName) prog_1_method_21_code (5 : Nat) (Option.some Jvm.ClassFile.FieldType.int)) ∈ gT := gT_in 810 (by decide +kernel) (by decide +kernel)
set_option maxRecDepth 20000 in
theorem tM_X11_208 : (Jvm.Cond.methodLink "YesterdayScale" (208 : Nat) ({ cls := "YesterdayScale$Port", name := "liesOn", desc := "(II)Z" } : Jvm.MethodName)) ∈ gT := gT_in 811 (by decide +kernel) (by decide +kernel)
set_option maxRecDepth 20000 in
theorem tM_L_101 : (Jvm.Cond.methodLink "YesterdayScaleLaw" (101 : Nat) ({ cls := "YesterdayScale", name := "image", desc := "(I)I" } : Jvm.MethodName)) ∈ gT := gT_in 812 (by decide +kernel) (by decide +kernel)
set_option maxRecDepth 20000 in
theorem tI_X11_image : (Jvm.Cond.instanceMethod ({ cls := "YesterdayScale", name := "image", desc := "(I)I" } : Jvm.MethodName)) ∈ gT := gT_in 813 (by decide +kernel) (by decide +kernel)
set_option maxRecDepth 20000 in
theorem tSel_X11_X11_X11_image : (Jvm.Cond.selects "YesterdayScale" ({ cls := "YesterdayScale", name := "image", desc := "(I)I" } : Jvm.MethodName) ({ cls := "YesterdayScale", name := "image", desc := "(I)I" } : Jvm.MethodName)) ∈ gT := gT_in 814 (by decide +kernel) (by decide +kernel)
set_option maxRecDepth 20000 in
theorem tY_X11_image : (Jvm.Cond.code ({ cls := "YesterdayScale", name := "image", desc := "(I)I" } : Jvm.MethodName) prog_1_method_22_code (2 : Nat) (Option.some Jvm.ClassFile.FieldType.int)) ∈ gT := gT_in 815 (by decide +kernel) (by decide +kernel)
set_option maxRecDepth 20000 in
theorem tM_X11_211 : (Jvm.Cond.methodLink "YesterdayScale" (211 : Nat) ({ cls := "YesterdayScale", name := "isImage", desc := "(I)Z" } : Jvm.MethodName)) ∈ gT := gT_in 816 (by decide +kernel) (by decide +kernel)
set_option maxRecDepth 20000 in
theorem tS_X11_isImage : (Jvm.Cond.static ({ cls := "YesterdayScale", name := "isImage", desc := "(I)Z" } : Jvm.MethodName)) ∈ gT := gT_in 817 (by decide +kernel) (by decide +kernel)
set_option maxRecDepth 20000 in
theorem tY_X11_isImage : (Jvm.Cond.code ({ cls := "YesterdayScale", name := "isImage", desc := "(I)Z" } : Jvm.MethodName) prog_1_method_31_code (1 : Nat) (Option.some Jvm.ClassFile.FieldType.boolean)) ∈ gT := gT_in 818 (by decide +kernel) (by decide +kernel)
set_option maxRecDepth 20000 in
theorem tM_L_105 : (Jvm.Cond.methodLink "YesterdayScaleLaw" (105 : Nat) ({ cls := "YesterdayScale", name := "restore", desc := "(I)I" } : Jvm.MethodName)) ∈ gT := gT_in 819 (by decide +kernel) (by decide +kernel)
set_option maxRecDepth 20000 in
theorem tI_X11_restore : (Jvm.Cond.instanceMethod ({ cls := "YesterdayScale", name := "restore", desc := "(I)I" } : Jvm.MethodName)) ∈ gT := gT_in 820 (by decide +kernel) (by decide +kernel)
set_option maxRecDepth 20000 in
theorem tSel_X11_X11_X11_restore : (Jvm.Cond.selects "YesterdayScale" ({ cls := "YesterdayScale", name := "restore", desc := "(I)I" } : Jvm.MethodName) ({ cls := "YesterdayScale", name := "restore", desc := "(I)I" } : Jvm.MethodName)) ∈ gT := gT_in 821 (by decide +kernel) (by decide +kernel)
set_option maxRecDepth 20000 in
theorem tY_X11_restore : (Jvm.Cond.code ({ cls := "YesterdayScale", name := "restore", desc := "(I)I" } : Jvm.MethodName) prog_1_method_23_code (2 : Nat) (Option.some Jvm.ClassFile.FieldType.int)) ∈ gT := gT_in 822 (by decide +kernel) (by decide +kernel)
set_option maxRecDepth 20000 in
theorem tM_L_109 : (Jvm.Cond.methodLink "YesterdayScaleLaw" (109 : Nat) ({ cls := "YesterdayScale", name := "kind", desc := "(I)I" } : Jvm.MethodName)) ∈ gT := gT_in 823 (by decide +kernel) (by decide +kernel)
set_option maxRecDepth 20000 in
theorem tI_X11_kind : (Jvm.Cond.instanceMethod ({ cls := "YesterdayScale", name := "kind", desc := "(I)I" } : Jvm.MethodName)) ∈ gT := gT_in 824 (by decide +kernel) (by decide +kernel)
set_option maxRecDepth 20000 in
theorem tSel_X11_X11_X11_kind : (Jvm.Cond.selects "YesterdayScale" ({ cls := "YesterdayScale", name := "kind", desc := "(I)I" } : Jvm.MethodName) ({ cls := "YesterdayScale", name := "kind", desc := "(I)I" } : Jvm.MethodName)) ∈ gT := gT_in 825 (by decide +kernel) (by decide +kernel)
set_option maxRecDepth 20000 in
theorem tY_X11_kind : (Jvm.Cond.code ({ cls := "YesterdayScale", name := "kind", desc := "(I)I" } : Jvm.MethodName) prog_1_method_24_code (3 : Nat) (Option.some Jvm.ClassFile.FieldType.int)) ∈ gT := gT_in 826 (by decide +kernel) (by decide +kernel)
set_option maxRecDepth 20000 in
theorem tM_X11_214 : (Jvm.Cond.methodLink "YesterdayScale" (214 : Nat) ({ cls := "YesterdayScale$Thing", name := "kindNumber", desc := "()I" } : Jvm.MethodName)) ∈ gT := gT_in 827 (by decide +kernel) (by decide +kernel)
set_option maxRecDepth 20000 in
theorem tSam_X7_X7_kindNumber : (Jvm.Cond.sameMethod "YesterdayScale$Thing" "YesterdayScale$Thing" "kindNumber" "()I") ∈ gT := gT_in 829 (by decide +kernel) (by decide +kernel)
set_option maxRecDepth 20000 in
theorem tSel_X1_X7_X1_kindNumber : (Jvm.Cond.selects "YesterdayScale$Fish" ({ cls := "YesterdayScale$Thing", name := "kindNumber", desc := "()I" } : Jvm.MethodName) ({ cls := "YesterdayScale$Fish", name := "kindNumber", desc := "()I" } : Jvm.MethodName)) ∈ gT := gT_in 830 (by decide +kernel) (by decide +kernel)
set_option maxRecDepth 20000 in
theorem tI_X1_kindNumber : (Jvm.Cond.instanceMethod ({ cls := "YesterdayScale$Fish", name := "kindNumber", desc := "()I" } : Jvm.MethodName)) ∈ gT := gT_in 831 (by decide +kernel) (by decide +kernel)
set_option maxRecDepth 20000 in
theorem tY_X1_kindNumber : (Jvm.Cond.code ({ cls := "YesterdayScale$Fish", name := "kindNumber", desc := "()I" } : Jvm.MethodName) prog_3_method_2_code (1 : Nat) (Option.some Jvm.ClassFile.FieldType.int)) ∈ gT := gT_in 832 (by decide +kernel) (by decide +kernel)
set_option maxRecDepth 20000 in
theorem tSel_X4_X7_X4_kindNumber : (Jvm.Cond.selects "YesterdayScale$Salt" ({ cls := "YesterdayScale$Thing", name := "kindNumber", desc := "()I" } : Jvm.MethodName) ({ cls := "YesterdayScale$Salt", name := "kindNumber", desc := "()I" } : Jvm.MethodName)) ∈ gT := gT_in 833 (by decide +kernel) (by decide +kernel)
set_option maxRecDepth 20000 in
theorem tI_X4_kindNumber : (Jvm.Cond.instanceMethod ({ cls := "YesterdayScale$Salt", name := "kindNumber", desc := "()I" } : Jvm.MethodName)) ∈ gT := gT_in 834 (by decide +kernel) (by decide +kernel)
set_option maxRecDepth 20000 in
theorem tY_X4_kindNumber : (Jvm.Cond.code ({ cls := "YesterdayScale$Salt", name := "kindNumber", desc := "()I" } : Jvm.MethodName) prog_6_method_2_code (1 : Nat) (Option.some Jvm.ClassFile.FieldType.int)) ∈ gT := gT_in 835 (by decide +kernel) (by decide +kernel)
set_option maxRecDepth 20000 in
theorem tSel_X5_X7_X5_kindNumber : (Jvm.Cond.selects "YesterdayScale$Stone" ({ cls := "YesterdayScale$Thing", name := "kindNumber", desc := "()I" } : Jvm.MethodName) ({ cls := "YesterdayScale$Stone", name := "kindNumber", desc := "()I" } : Jvm.MethodName)) ∈ gT := gT_in 836 (by decide +kernel) (by decide +kernel)
set_option maxRecDepth 20000 in
theorem tI_X5_kindNumber : (Jvm.Cond.instanceMethod ({ cls := "YesterdayScale$Stone", name := "kindNumber", desc := "()I" } : Jvm.MethodName)) ∈ gT := gT_in 837 (by decide +kernel) (by decide +kernel)
set_option maxRecDepth 20000 in
theorem tY_X5_kindNumber : (Jvm.Cond.code ({ cls := "YesterdayScale$Stone", name := "kindNumber", desc := "()I" } : Jvm.MethodName) prog_7_method_2_code (1 : Nat) (Option.some Jvm.ClassFile.FieldType.int)) ∈ gT := gT_in 838 (by decide +kernel) (by decide +kernel)
set_option maxRecDepth 20000 in
theorem tSel_X8_X7_X8_kindNumber : (Jvm.Cond.selects "YesterdayScale$Whale" ({ cls := "YesterdayScale$Thing", name := "kindNumber", desc := "()I" } : Jvm.MethodName) ({ cls := "YesterdayScale$Whale", name := "kindNumber", desc := "()I" } : Jvm.MethodName)) ∈ gT := gT_in 839 (by decide +kernel) (by decide +kernel)
set_option maxRecDepth 20000 in
theorem tI_X8_kindNumber : (Jvm.Cond.instanceMethod ({ cls := "YesterdayScale$Whale", name := "kindNumber", desc := "()I" } : Jvm.MethodName)) ∈ gT := gT_in 840 (by decide +kernel) (by decide +kernel)
set_option maxRecDepth 20000 in
theorem tY_X8_kindNumber : (Jvm.Cond.code ({ cls := "YesterdayScale$Whale", name := "kindNumber", desc := "()I" } : Jvm.MethodName) prog_10_method_2_code (1 : Nat) (Option.some Jvm.ClassFile.FieldType.int)) ∈ gT := gT_in 841 (by decide +kernel) (by decide +kernel)
set_option maxRecDepth 20000 in
theorem tSel_X9_X7_X9_kindNumber : (Jvm.Cond.selects "YesterdayScale$Wool" ({ cls := "YesterdayScale$Thing", name := "kindNumber", desc := "()I" } : Jvm.MethodName) ({ cls := "YesterdayScale$Wool", name := "kindNumber", desc := "()I" } : Jvm.MethodName)) ∈ gT := gT_in 842 (by decide +kernel) (by decide +kernel)
set_option maxRecDepth 20000 in
theorem tI_X9_kindNumber : (Jvm.Cond.instanceMethod ({ cls := "YesterdayScale$Wool", name := "kindNumber", desc := "()I" } : Jvm.MethodName)) ∈ gT := gT_in 843 (by decide +kernel) (by decide +kernel)
set_option maxRecDepth 20000 in
theorem tY_X9_kindNumber : (Jvm.Cond.code ({ cls := "YesterdayScale$Wool", name := "kindNumber", desc := "()I" } : Jvm.MethodName) prog_11_method_2_code (1 : Nat) (Option.some Jvm.ClassFile.FieldType.int)) ∈ gT := gT_in 844 (by decide +kernel) (by decide +kernel)
set_option maxRecDepth 20000 in
theorem tM_L_113 : (Jvm.Cond.methodLink "YesterdayScaleLaw" (113 : Nat) ({ cls := "YesterdayScale", name := "as", desc := "(II)I" } : Jvm.MethodName)) ∈ gT := gT_in 845 (by decide +kernel) (by decide +kernel)
set_option maxRecDepth 20000 in
theorem tI_X11_as : (Jvm.Cond.instanceMethod ({ cls := "YesterdayScale", name := "as", desc := "(II)I" } : Jvm.MethodName)) ∈ gT := gT_in 846 (by decide +kernel) (by decide +kernel)
set_option maxRecDepth 20000 in
theorem tSel_X11_X11_X11_as : (Jvm.Cond.selects "YesterdayScale" ({ cls := "YesterdayScale", name := "as", desc := "(II)I" } : Jvm.MethodName) ({ cls := "YesterdayScale", name := "as", desc := "(II)I" } : Jvm.MethodName)) ∈ gT := gT_in 847 (by decide +kernel) (by decide +kernel)
set_option maxRecDepth 20000 in
theorem tY_X11_as : (Jvm.Cond.code ({ cls := "YesterdayScale", name := "as", desc := "(II)I" } : Jvm.MethodName) prog_1_method_25_code (4 : Nat) (Option.some Jvm.ClassFile.FieldType.int)) ∈ gT := gT_in 848 (by decide +kernel) (by decide +kernel)
set_option maxRecDepth 20000 in
theorem tM_X11_217 : (Jvm.Cond.methodLink "YesterdayScale" (217 : Nat) ({ cls := "YesterdayScale", name := "isOfKind", desc := "(LYesterdayScale$Thing;I)Z" } : Jvm.MethodName)) ∈ gT := gT_in 849 (by decide +kernel) (by decide +kernel)
set_option maxRecDepth 20000 in
theorem tS_X11_isOfKind : (Jvm.Cond.static ({ cls := "YesterdayScale", name := "isOfKind", desc := "(LYesterdayScale$Thing;I)Z" } : Jvm.MethodName)) ∈ gT := gT_in 850 (by decide +kernel) (by decide +kernel)
set_option maxRecDepth 20000 in
theorem tY_X11_isOfKind : (Jvm.Cond.code ({ cls := "YesterdayScale", name := "isOfKind", desc := "(LYesterdayScale$Thing;I)Z" } : Jvm.MethodName) prog_1_method_36_code (2 : Nat) (Option.some Jvm.ClassFile.FieldType.boolean)) ∈ gT := gT_in 851 (by decide +kernel) (by decide +kernel)
set_option maxRecDepth 20000 in
theorem tC_X11_262 : (Jvm.Cond.classLink "YesterdayScale" (262 : Nat) "YesterdayScale$Salt") ∈ gT := gT_in 852 (by decide +kernel) (by decide +kernel)
set_option maxRecDepth 20000 in
theorem tC_X11_264 : (Jvm.Cond.classLink "YesterdayScale" (264 : Nat) "YesterdayScale$Fish") ∈ gT := gT_in 853 (by decide +kernel) (by decide +kernel)
set_option maxRecDepth 20000 in
theorem tC_X11_266 : (Jvm.Cond.classLink "YesterdayScale" (266 : Nat) "YesterdayScale$Wool") ∈ gT := gT_in 854 (by decide +kernel) (by decide +kernel)
set_option maxRecDepth 20000 in
theorem tC_X11_268 : (Jvm.Cond.classLink "YesterdayScale" (268 : Nat) "YesterdayScale$Stone") ∈ gT := gT_in 855 (by decide +kernel) (by decide +kernel)
set_option maxRecDepth 20000 in
theorem tC_X11_270 : (Jvm.Cond.classLink "YesterdayScale" (270 : Nat) "YesterdayScale$Whale") ∈ gT := gT_in 856 (by decide +kernel) (by decide +kernel)
set_option maxRecDepth 20000 in
theorem tM_L_117 : (Jvm.Cond.methodLink "YesterdayScaleLaw" (117 : Nat) ({ cls := "YesterdayScale", name := "ask", desc := "(II)I" } : Jvm.MethodName)) ∈ gT := gT_in 857 (by decide +kernel) (by decide +kernel)
set_option maxRecDepth 20000 in
theorem tI_X11_ask : (Jvm.Cond.instanceMethod ({ cls := "YesterdayScale", name := "ask", desc := "(II)I" } : Jvm.MethodName)) ∈ gT := gT_in 858 (by decide +kernel) (by decide +kernel)
set_option maxRecDepth 20000 in
theorem tSel_X11_X11_X11_ask : (Jvm.Cond.selects "YesterdayScale" ({ cls := "YesterdayScale", name := "ask", desc := "(II)I" } : Jvm.MethodName) ({ cls := "YesterdayScale", name := "ask", desc := "(II)I" } : Jvm.MethodName)) ∈ gT := gT_in 859 (by decide +kernel) (by decide +kernel)
set_option maxRecDepth 20000 in
theorem tY_X11_ask : (Jvm.Cond.code ({ cls := "YesterdayScale", name := "ask", desc := "(II)I" } : Jvm.MethodName) prog_1_method_26_code (4 : Nat) (Option.some Jvm.ClassFile.FieldType.int)) ∈ gT := gT_in 860 (by decide +kernel) (by decide +kernel)
set_option maxRecDepth 20000 in
theorem tM_X11_224 : (Jvm.Cond.methodLink "YesterdayScale" (224 : Nat) ({ cls := "YesterdayScale$Asking", name := "begin", desc := "(I)V" } : Jvm.MethodName)) ∈ gT := gT_in 861 (by decide +kernel) (by decide +kernel)
set_option maxRecDepth 20000 in
theorem tI_X0_begin : (Jvm.Cond.instanceMethod ({ cls := "YesterdayScale$Asking", name := "begin", desc := "(I)V" } : Jvm.MethodName)) ∈ gT := gT_in 862 (by decide +kernel) (by decide +kernel)
set_option maxRecDepth 20000 in
theorem tSel_X0_X0_X0_begin : (Jvm.Cond.selects "YesterdayScale$Asking" ({ cls := "YesterdayScale$Asking", name := "begin", desc := "(I)V" } : Jvm.MethodName) ({ cls := "YesterdayScale$Asking", name := "begin", desc := "(I)V" } : Jvm.MethodName)) ∈ gT := gT_in 863 (by decide +kernel) (by decide +kernel)
set_option maxRecDepth 20000 in
theorem tY_X0_begin : (Jvm.Cond.code ({ cls := "YesterdayScale$Asking", name := "begin", desc := "(I)V" } : Jvm.MethodName) prog_2_method_2_code (2 : Nat) (Option.none : Option Jvm.ClassFile.FieldType)) ∈ gT := gT_in 864 (by decide +kernel) (by decide +kernel)
set_option maxRecDepth 20000 in
theorem tM_X11_226 : (Jvm.Cond.methodLink "YesterdayScale" (226 : Nat) ({ cls := "YesterdayScale$Thing", name := "sizeBy", desc := "(LYesterdayScale$Asking;I)I" } : Jvm.MethodName)) ∈ gT := gT_in 865 (by decide +kernel) (by decide +kernel)
set_option maxRecDepth 20000 in
theorem tI_X7_sizeBy : (Jvm.Cond.instanceMethod ({ cls := "YesterdayScale$Thing", name := "sizeBy", desc := "(LYesterdayScale$Asking;I)I" } : Jvm.MethodName)) ∈ gT := gT_in 866 (by decide +kernel) (by decide +kernel)
set_option maxRecDepth 20000 in
theorem tSam_X7_X7_sizeBy : (Jvm.Cond.sameMethod "YesterdayScale$Thing" "YesterdayScale$Thing" "sizeBy" "(LYesterdayScale$Asking;I)I") ∈ gT := gT_in 867 (by decide +kernel) (by decide +kernel)
set_option maxRecDepth 20000 in
theorem tSel_X1_X7_X4_sizeBy : (Jvm.Cond.selects "YesterdayScale$Fish" ({ cls := "YesterdayScale$Thing", name := "sizeBy", desc := "(LYesterdayScale$Asking;I)I" } : Jvm.MethodName) ({ cls := "YesterdayScale$Salt", name := "sizeBy", desc := "(LYesterdayScale$Asking;I)I" } : Jvm.MethodName)) ∈ gT := gT_in 868 (by decide +kernel) (by decide +kernel)
set_option maxRecDepth 20000 in
theorem tI_X4_sizeBy : (Jvm.Cond.instanceMethod ({ cls := "YesterdayScale$Salt", name := "sizeBy", desc := "(LYesterdayScale$Asking;I)I" } : Jvm.MethodName)) ∈ gT := gT_in 869 (by decide +kernel) (by decide +kernel)
set_option maxRecDepth 20000 in
theorem tY_X4_sizeBy : (Jvm.Cond.code ({ cls := "YesterdayScale$Salt", name := "sizeBy", desc := "(LYesterdayScale$Asking;I)I" } : Jvm.MethodName) prog_6_method_3_code (4 : Nat) (Option.some Jvm.ClassFile.FieldType.int)) ∈ gT := gT_in 870 (by decide +kernel) (by decide +kernel)
set_option maxRecDepth 20000 in
theorem tM_X4_9 : (Jvm.Cond.methodLink "YesterdayScale$Salt" (9 : Nat) ({ cls := "YesterdayScale$Asking", name := "enter", desc := "(I)V" } : Jvm.MethodName)) ∈ gT := gT_in 871 (by decide +kernel) (by decide +kernel)
set_option maxRecDepth 20000 in
theorem tI_X0_enter : (Jvm.Cond.instanceMethod ({ cls := "YesterdayScale$Asking", name := "enter", desc := "(I)V" } : Jvm.MethodName)) ∈ gT := gT_in 872 (by decide +kernel) (by decide +kernel)
set_option maxRecDepth 20000 in
theorem tSel_X0_X0_X0_enter : (Jvm.Cond.selects "YesterdayScale$Asking" ({ cls := "YesterdayScale$Asking", name := "enter", desc := "(I)V" } : Jvm.MethodName) ({ cls := "YesterdayScale$Asking", name := "enter", desc := "(I)V" } : Jvm.MethodName)) ∈ gT := gT_in 873 (by decide +kernel) (by decide +kernel)
set_option maxRecDepth 20000 in
theorem tY_X0_enter : (Jvm.Cond.code ({ cls := "YesterdayScale$Asking", name := "enter", desc := "(I)V" } : Jvm.MethodName) prog_2_method_3_code (2 : Nat) (Option.none : Option Jvm.ClassFile.FieldType)) ∈ gT := gT_in 874 (by decide +kernel) (by decide +kernel)
set_option maxRecDepth 20000 in
theorem tM_X4_15 : (Jvm.Cond.methodLink "YesterdayScale$Salt" (15 : Nat) ({ cls := "YesterdayScale$Thing", name := "sizeBy", desc := "(LYesterdayScale$Asking;I)I" } : Jvm.MethodName)) ∈ gT := gT_in 875 (by decide +kernel) (by decide +kernel)
set_option maxRecDepth 20000 in
theorem tM_X4_19 : (Jvm.Cond.methodLink "YesterdayScale$Salt" (19 : Nat) ({ cls := "YesterdayScale$Salt", name := "markBy", desc := "(LYesterdayScale$Asking;I)I" } : Jvm.MethodName)) ∈ gT := gT_in 876 (by decide +kernel) (by decide +kernel)
set_option maxRecDepth 20000 in
theorem tI_X4_markBy : (Jvm.Cond.instanceMethod ({ cls := "YesterdayScale$Salt", name := "markBy", desc := "(LYesterdayScale$Asking;I)I" } : Jvm.MethodName)) ∈ gT := gT_in 877 (by decide +kernel) (by decide +kernel)
set_option maxRecDepth 20000 in
theorem tSel_X4_X4_X4_markBy : (Jvm.Cond.selects "YesterdayScale$Salt" ({ cls := "YesterdayScale$Salt", name := "markBy", desc := "(LYesterdayScale$Asking;I)I" } : Jvm.MethodName) ({ cls := "YesterdayScale$Salt", name := "markBy", desc := "(LYesterdayScale$Asking;I)I" } : Jvm.MethodName)) ∈ gT := gT_in 878 (by decide +kernel) (by decide +kernel)
set_option maxRecDepth 20000 in
theorem tSam_X4_X4_markBy : (Jvm.Cond.sameMethod "YesterdayScale$Salt" "YesterdayScale$Salt" "markBy" "(LYesterdayScale$Asking;I)I") ∈ gT := gT_in 879 (by decide +kernel) (by decide +kernel)
set_option maxRecDepth 20000 in
theorem tSel_X1_X4_X1_markBy : (Jvm.Cond.selects "YesterdayScale$Fish" ({ cls := "YesterdayScale$Salt", name := "markBy", desc := "(LYesterdayScale$Asking;I)I" } : Jvm.MethodName) ({ cls := "YesterdayScale$Fish", name := "markBy", desc := "(LYesterdayScale$Asking;I)I" } : Jvm.MethodName)) ∈ gT := gT_in 880 (by decide +kernel) (by decide +kernel)
set_option maxRecDepth 20000 in
theorem tI_X1_markBy : (Jvm.Cond.instanceMethod ({ cls := "YesterdayScale$Fish", name := "markBy", desc := "(LYesterdayScale$Asking;I)I" } : Jvm.MethodName)) ∈ gT := gT_in 881 (by decide +kernel) (by decide +kernel)
set_option maxRecDepth 20000 in
theorem tY_X1_markBy : (Jvm.Cond.code ({ cls := "YesterdayScale$Fish", name := "markBy", desc := "(LYesterdayScale$Asking;I)I" } : Jvm.MethodName) prog_3_method_4_code (3 : Nat) (Option.some Jvm.ClassFile.FieldType.int)) ∈ gT := gT_in 882 (by decide +kernel) (by decide +kernel)
set_option maxRecDepth 20000 in
theorem tM_X1_15 : (Jvm.Cond.methodLink "YesterdayScale$Fish" (15 : Nat) ({ cls := "YesterdayScale$Asking", name := "enter", desc := "(I)V" } : Jvm.MethodName)) ∈ gT := gT_in 883 (by decide +kernel) (by decide +kernel)
set_option maxRecDepth 20000 in
theorem tM_X1_21 : (Jvm.Cond.methodLink "YesterdayScale$Fish" (21 : Nat) ({ cls := "YesterdayScale$Salt", name := "markBy", desc := "(LYesterdayScale$Asking;I)I" } : Jvm.MethodName)) ∈ gT := gT_in 884 (by decide +kernel) (by decide +kernel)
set_option maxRecDepth 20000 in
theorem tSel_X9_X4_X9_markBy : (Jvm.Cond.selects "YesterdayScale$Wool" ({ cls := "YesterdayScale$Salt", name := "markBy", desc := "(LYesterdayScale$Asking;I)I" } : Jvm.MethodName) ({ cls := "YesterdayScale$Wool", name := "markBy", desc := "(LYesterdayScale$Asking;I)I" } : Jvm.MethodName)) ∈ gT := gT_in 885 (by decide +kernel) (by decide +kernel)
set_option maxRecDepth 20000 in
theorem tI_X9_markBy : (Jvm.Cond.instanceMethod ({ cls := "YesterdayScale$Wool", name := "markBy", desc := "(LYesterdayScale$Asking;I)I" } : Jvm.MethodName)) ∈ gT := gT_in 886 (by decide +kernel) (by decide +kernel)
set_option maxRecDepth 20000 in
theorem tY_X9_markBy : (Jvm.Cond.code ({ cls := "YesterdayScale$Wool", name := "markBy", desc := "(LYesterdayScale$Asking;I)I" } : Jvm.MethodName) prog_11_method_5_code (3 : Nat) (Option.some Jvm.ClassFile.FieldType.int)) ∈ gT := gT_in 887 (by decide +kernel) (by decide +kernel)
set_option maxRecDepth 20000 in
theorem tM_X9_9 : (Jvm.Cond.methodLink "YesterdayScale$Wool" (9 : Nat) ({ cls := "YesterdayScale$Asking", name := "enter", desc := "(I)V" } : Jvm.MethodName)) ∈ gT := gT_in 888 (by decide +kernel) (by decide +kernel)
set_option maxRecDepth 20000 in
theorem tM_X9_19 : (Jvm.Cond.methodLink "YesterdayScale$Wool" (19 : Nat) ({ cls := "YesterdayScale$Salt", name := "markBy", desc := "(LYesterdayScale$Asking;I)I" } : Jvm.MethodName)) ∈ gT := gT_in 889 (by decide +kernel) (by decide +kernel)
set_option maxRecDepth 20000 in
theorem tY_X4_markBy : (Jvm.Cond.code ({ cls := "YesterdayScale$Salt", name := "markBy", desc := "(LYesterdayScale$Asking;I)I" } : Jvm.MethodName) prog_6_method_4_code (3 : Nat) (Option.some Jvm.ClassFile.FieldType.int)) ∈ gT := gT_in 890 (by decide +kernel) (by decide +kernel)
set_option maxRecDepth 20000 in
theorem tM_X4_22 : (Jvm.Cond.methodLink "YesterdayScale$Salt" (22 : Nat) ({ cls := "YesterdayScale$Thing", name := "markBy", desc := "(LYesterdayScale$Asking;I)I" } : Jvm.MethodName)) ∈ gT := gT_in 891 (by decide +kernel) (by decide +kernel)
set_option maxRecDepth 20000 in
theorem tI_X7_markBy : (Jvm.Cond.instanceMethod ({ cls := "YesterdayScale$Thing", name := "markBy", desc := "(LYesterdayScale$Asking;I)I" } : Jvm.MethodName)) ∈ gT := gT_in 892 (by decide +kernel) (by decide +kernel)
set_option maxRecDepth 20000 in
theorem tY_X7_markBy : (Jvm.Cond.code ({ cls := "YesterdayScale$Thing", name := "markBy", desc := "(LYesterdayScale$Asking;I)I" } : Jvm.MethodName) prog_9_method_5_code (3 : Nat) (Option.some Jvm.ClassFile.FieldType.int)) ∈ gT := gT_in 893 (by decide +kernel) (by decide +kernel)
set_option maxRecDepth 20000 in
theorem tM_X7_16 : (Jvm.Cond.methodLink "YesterdayScale$Thing" (16 : Nat) ({ cls := "YesterdayScale$Asking", name := "enter", desc := "(I)V" } : Jvm.MethodName)) ∈ gT := gT_in 894 (by decide +kernel) (by decide +kernel)
set_option maxRecDepth 20000 in
theorem tSel_X4_X7_X4_sizeBy : (Jvm.Cond.selects "YesterdayScale$Salt" ({ cls := "YesterdayScale$Thing", name := "sizeBy", desc := "(LYesterdayScale$Asking;I)I" } : Jvm.MethodName) ({ cls := "YesterdayScale$Salt", name := "sizeBy", desc := "(LYesterdayScale$Asking;I)I" } : Jvm.MethodName)) ∈ gT := gT_in 895 (by decide +kernel) (by decide +kernel)
set_option maxRecDepth 20000 in
theorem tSel_X5_X7_X5_sizeBy : (Jvm.Cond.selects "YesterdayScale$Stone" ({ cls := "YesterdayScale$Thing", name := "sizeBy", desc := "(LYesterdayScale$Asking;I)I" } : Jvm.MethodName) ({ cls := "YesterdayScale$Stone", name := "sizeBy", desc := "(LYesterdayScale$Asking;I)I" } : Jvm.MethodName)) ∈ gT := gT_in 896 (by decide +kernel) (by decide +kernel)
set_option maxRecDepth 20000 in
theorem tI_X5_sizeBy : (Jvm.Cond.instanceMethod ({ cls := "YesterdayScale$Stone", name := "sizeBy", desc := "(LYesterdayScale$Asking;I)I" } : Jvm.MethodName)) ∈ gT := gT_in 897 (by decide +kernel) (by decide +kernel)
set_option maxRecDepth 20000 in
theorem tY_X5_sizeBy : (Jvm.Cond.code ({ cls := "YesterdayScale$Stone", name := "sizeBy", desc := "(LYesterdayScale$Asking;I)I" } : Jvm.MethodName) prog_7_method_3_code (3 : Nat) (Option.some Jvm.ClassFile.FieldType.int)) ∈ gT := gT_in 898 (by decide +kernel) (by decide +kernel)
set_option maxRecDepth 20000 in
theorem tM_X5_9 : (Jvm.Cond.methodLink "YesterdayScale$Stone" (9 : Nat) ({ cls := "YesterdayScale$Asking", name := "enter", desc := "(I)V" } : Jvm.MethodName)) ∈ gT := gT_in 899 (by decide +kernel) (by decide +kernel)
set_option maxRecDepth 20000 in
theorem tM_X5_15 : (Jvm.Cond.methodLink "YesterdayScale$Stone" (15 : Nat) ({ cls := "YesterdayScale$Thing", name := "sizeBy", desc := "(LYesterdayScale$Asking;I)I" } : Jvm.MethodName)) ∈ gT := gT_in 900 (by decide +kernel) (by decide +kernel)
set_option maxRecDepth 20000 in
theorem tSel_X8_X7_X8_sizeBy : (Jvm.Cond.selects "YesterdayScale$Whale" ({ cls := "YesterdayScale$Thing", name := "sizeBy", desc := "(LYesterdayScale$Asking;I)I" } : Jvm.MethodName) ({ cls := "YesterdayScale$Whale", name := "sizeBy", desc := "(LYesterdayScale$Asking;I)I" } : Jvm.MethodName)) ∈ gT := gT_in 901 (by decide +kernel) (by decide +kernel)
set_option maxRecDepth 20000 in
theorem tI_X8_sizeBy : (Jvm.Cond.instanceMethod ({ cls := "YesterdayScale$Whale", name := "sizeBy", desc := "(LYesterdayScale$Asking;I)I" } : Jvm.MethodName)) ∈ gT := gT_in 902 (by decide +kernel) (by decide +kernel)
set_option maxRecDepth 20000 in
theorem tY_X8_sizeBy : (Jvm.Cond.code ({ cls := "YesterdayScale$Whale", name := "sizeBy", desc := "(LYesterdayScale$Asking;I)I" } : Jvm.MethodName) prog_10_method_4_code (3 : Nat) (Option.some Jvm.ClassFile.FieldType.int)) ∈ gT := gT_in 903 (by decide +kernel) (by decide +kernel)
set_option maxRecDepth 20000 in
theorem tM_X8_9 : (Jvm.Cond.methodLink "YesterdayScale$Whale" (9 : Nat) ({ cls := "YesterdayScale$Asking", name := "enter", desc := "(I)V" } : Jvm.MethodName)) ∈ gT := gT_in 904 (by decide +kernel) (by decide +kernel)
set_option maxRecDepth 20000 in
theorem tM_X8_15 : (Jvm.Cond.methodLink "YesterdayScale$Whale" (15 : Nat) ({ cls := "YesterdayScale$Stone", name := "sizeBy", desc := "(LYesterdayScale$Asking;I)I" } : Jvm.MethodName)) ∈ gT := gT_in 905 (by decide +kernel) (by decide +kernel)
set_option maxRecDepth 20000 in
theorem tSel_X9_X7_X9_sizeBy : (Jvm.Cond.selects "YesterdayScale$Wool" ({ cls := "YesterdayScale$Thing", name := "sizeBy", desc := "(LYesterdayScale$Asking;I)I" } : Jvm.MethodName) ({ cls := "YesterdayScale$Wool", name := "sizeBy", desc := "(LYesterdayScale$Asking;I)I" } : Jvm.MethodName)) ∈ gT := gT_in 906 (by decide +kernel) (by decide +kernel)
set_option maxRecDepth 20000 in
theorem tI_X9_sizeBy : (Jvm.Cond.instanceMethod ({ cls := "YesterdayScale$Wool", name := "sizeBy", desc := "(LYesterdayScale$Asking;I)I" } : Jvm.MethodName)) ∈ gT := gT_in 907 (by decide +kernel) (by decide +kernel)
set_option maxRecDepth 20000 in
theorem tY_X9_sizeBy : (Jvm.Cond.code ({ cls := "YesterdayScale$Wool", name := "sizeBy", desc := "(LYesterdayScale$Asking;I)I" } : Jvm.MethodName) prog_11_method_4_code (3 : Nat) (Option.some Jvm.ClassFile.FieldType.int)) ∈ gT := gT_in 908 (by decide +kernel) (by decide +kernel)
set_option maxRecDepth 20000 in
theorem tM_X9_15 : (Jvm.Cond.methodLink "YesterdayScale$Wool" (15 : Nat) ({ cls := "YesterdayScale$Salt", name := "sizeBy", desc := "(LYesterdayScale$Asking;I)I" } : Jvm.MethodName)) ∈ gT := gT_in 909 (by decide +kernel) (by decide +kernel)
set_option maxRecDepth 20000 in
theorem tY_X7_sizeBy : (Jvm.Cond.code ({ cls := "YesterdayScale$Thing", name := "sizeBy", desc := "(LYesterdayScale$Asking;I)I" } : Jvm.MethodName) prog_9_method_4_code (3 : Nat) (Option.some Jvm.ClassFile.FieldType.int)) ∈ gT := gT_in 910 (by decide +kernel) (by decide +kernel)
set_option maxRecDepth 20000 in
theorem tM_X11_230 : (Jvm.Cond.methodLink "YesterdayScale" (230 : Nat) ({ cls := "YesterdayScale$Thing", name := "markBy", desc := "(LYesterdayScale$Asking;I)I" } : Jvm.MethodName)) ∈ gT := gT_in 911 (by decide +kernel) (by decide +kernel)
set_option maxRecDepth 20000 in
theorem tI_X5_markBy : (Jvm.Cond.instanceMethod ({ cls := "YesterdayScale$Stone", name := "markBy", desc := "(LYesterdayScale$Asking;I)I" } : Jvm.MethodName)) ∈ gT := gT_in 912 (by decide +kernel) (by decide +kernel)
set_option maxRecDepth 20000 in
theorem tY_X5_markBy : (Jvm.Cond.code ({ cls := "YesterdayScale$Stone", name := "markBy", desc := "(LYesterdayScale$Asking;I)I" } : Jvm.MethodName) prog_7_method_4_code (4 : Nat) (Option.some Jvm.ClassFile.FieldType.int)) ∈ gT := gT_in 913 (by decide +kernel) (by decide +kernel)
set_option maxRecDepth 20000 in
theorem tM_X5_19 : (Jvm.Cond.methodLink "YesterdayScale$Stone" (19 : Nat) ({ cls := "YesterdayScale$Thing", name := "markBy", desc := "(LYesterdayScale$Asking;I)I" } : Jvm.MethodName)) ∈ gT := gT_in 914 (by decide +kernel) (by decide +kernel)
set_option maxRecDepth 20000 in
theorem tM_X5_22 : (Jvm.Cond.methodLink "YesterdayScale$Stone" (22 : Nat) ({ cls := "YesterdayScale$Stone", name := "sizeBy", desc := "(LYesterdayScale$Asking;I)I" } : Jvm.MethodName)) ∈ gT := gT_in 915 (by decide +kernel) (by decide +kernel)
set_option maxRecDepth 20000 in
theorem tM_L_121 : (Jvm.Cond.methodLink "YesterdayScaleLaw" (121 : Nat) ({ cls := "YesterdayScale", name := "trace", desc := "(I)I" } : Jvm.MethodName)) ∈ gT := gT_in 916 (by decide +kernel) (by decide +kernel)
set_option maxRecDepth 20000 in
theorem tI_X11_trace : (Jvm.Cond.instanceMethod ({ cls := "YesterdayScale", name := "trace", desc := "(I)I" } : Jvm.MethodName)) ∈ gT := gT_in 917 (by decide +kernel) (by decide +kernel)
set_option maxRecDepth 20000 in
theorem tSel_X11_X11_X11_trace : (Jvm.Cond.selects "YesterdayScale" ({ cls := "YesterdayScale", name := "trace", desc := "(I)I" } : Jvm.MethodName) ({ cls := "YesterdayScale", name := "trace", desc := "(I)I" } : Jvm.MethodName)) ∈ gT := gT_in 918 (by decide +kernel) (by decide +kernel)
set_option maxRecDepth 20000 in
theorem tY_X11_trace : (Jvm.Cond.code ({ cls := "YesterdayScale", name := "trace", desc := "(I)I" } : Jvm.MethodName) prog_1_method_27_code (2 : Nat) (Option.some Jvm.ClassFile.FieldType.int)) ∈ gT := gT_in 919 (by decide +kernel) (by decide +kernel)
set_option maxRecDepth 20000 in
theorem tK_X11_239 : (Jvm.Cond.constant "YesterdayScale" (239 : Nat) (-1000000 : Int32)) ∈ gT := gT_in 920 (by decide +kernel) (by decide +kernel)
set_option maxRecDepth 20000 in
theorem tM_L_125 : (Jvm.Cond.methodLink "YesterdayScaleLaw" (125 : Nat) ({ cls := "YesterdayScale", name := "count", desc := "(I)I" } : Jvm.MethodName)) ∈ gT := gT_in 921 (by decide +kernel) (by decide +kernel)
set_option maxRecDepth 20000 in
theorem tI_X11_count : (Jvm.Cond.instanceMethod ({ cls := "YesterdayScale", name := "count", desc := "(I)I" } : Jvm.MethodName)) ∈ gT := gT_in 922 (by decide +kernel) (by decide +kernel)
set_option maxRecDepth 20000 in
theorem tSel_X11_X11_X11_count : (Jvm.Cond.selects "YesterdayScale" ({ cls := "YesterdayScale", name := "count", desc := "(I)I" } : Jvm.MethodName) ({ cls := "YesterdayScale", name := "count", desc := "(I)I" } : Jvm.MethodName)) ∈ gT := gT_in 923 (by decide +kernel) (by decide +kernel)
set_option maxRecDepth 20000 in
theorem tY_X11_count : (Jvm.Cond.code ({ cls := "YesterdayScale", name := "count", desc := "(I)I" } : Jvm.MethodName) prog_1_method_28_code (2 : Nat) (Option.some Jvm.ClassFile.FieldType.int)) ∈ gT := gT_in 924 (by decide +kernel) (by decide +kernel)
set_option maxRecDepth 20000 in
theorem tM_X11_240 : (Jvm.Cond.methodLink "YesterdayScale" (240 : Nat) ({ cls := "YesterdayScale", name := "howManyRows", desc := "()I" } : Jvm.MethodName)) ∈ gT := gT_in 925 (by decide +kernel) (by decide +kernel)
set_option maxRecDepth 20000 in
theorem tI_X11_howManyRows : (Jvm.Cond.instanceMethod ({ cls := "YesterdayScale", name := "howManyRows", desc := "()I" } : Jvm.MethodName)) ∈ gT := gT_in 927 (by decide +kernel) (by decide +kernel)
set_option maxRecDepth 20000 in
theorem tY_X11_howManyRows : (Jvm.Cond.code ({ cls := "YesterdayScale", name := "howManyRows", desc := "()I" } : Jvm.MethodName) prog_1_method_34_code (3 : Nat) (Option.some Jvm.ClassFile.FieldType.int)) ∈ gT := gT_in 928 (by decide +kernel) (by decide +kernel)
set_option maxRecDepth 20000 in
theorem tM_L_129 : (Jvm.Cond.methodLink "YesterdayScaleLaw" (129 : Nat) ({ cls := "YesterdayScale", name := "status", desc := "()I" } : Jvm.MethodName)) ∈ gT := gT_in 929 (by decide +kernel) (by decide +kernel)
set_option maxRecDepth 20000 in
theorem tI_X11_status : (Jvm.Cond.instanceMethod ({ cls := "YesterdayScale", name := "status", desc := "()I" } : Jvm.MethodName)) ∈ gT := gT_in 930 (by decide +kernel) (by decide +kernel)
set_option maxRecDepth 20000 in
theorem tSel_X11_X11_X11_status : (Jvm.Cond.selects "YesterdayScale" ({ cls := "YesterdayScale", name := "status", desc := "()I" } : Jvm.MethodName) ({ cls := "YesterdayScale", name := "status", desc := "()I" } : Jvm.MethodName)) ∈ gT := gT_in 931 (by decide +kernel) (by decide +kernel)
set_option maxRecDepth 20000 in
theorem tY_X11_status : (Jvm.Cond.code ({ cls := "YesterdayScale", name := "status", desc := "()I" } : Jvm.MethodName) prog_1_method_29_code (1 : Nat) (Option.some Jvm.ClassFile.FieldType.int)) ∈ gT := gT_in 932 (by decide +kernel) (by decide +kernel)
set_option maxRecDepth 20000 in
theorem tC_L_10 : (Jvm.Cond.classLink "YesterdayScaleLaw" (10 : Nat) "YesterdayScaleModel") ∈ gT := gT_in 933 (by decide +kernel) (by decide +kernel)
set_option maxRecDepth 20000 in
theorem tIns_X12 : (Jvm.Cond.instantiable "YesterdayScaleModel" (31 : Nat)) ∈ gT := gT_in 934 (by decide +kernel) (by decide +kernel)
set_option maxRecDepth 20000 in
theorem tM_L_12 : (Jvm.Cond.methodLink "YesterdayScaleLaw" (12 : Nat) ({ cls := "YesterdayScaleModel", name := "<init>", desc := "()V" } : Jvm.MethodName)) ∈ gT := gT_in 935 (by decide +kernel) (by decide +kernel)
set_option maxRecDepth 20000 in
theorem tI_X12_init : (Jvm.Cond.instanceMethod ({ cls := "YesterdayScaleModel", name := "<init>", desc := "()V" } : Jvm.MethodName)) ∈ gT := gT_in 936 (by decide +kernel) (by decide +kernel)
set_option maxRecDepth 20000 in
theorem tY_X12_init : (Jvm.Cond.code ({ cls := "YesterdayScaleModel", name := "<init>", desc := "()V" } : Jvm.MethodName) prog_14_method_1_code (1 : Nat) (Option.none : Option Jvm.ClassFile.FieldType)) ∈ gT := gT_in 937 (by decide +kernel) (by decide +kernel)
set_option maxRecDepth 20000 in
theorem tM_X12_1 : (Jvm.Cond.methodLink "YesterdayScaleModel" (1 : Nat) ({ cls := "java/lang/Object", name := "<init>", desc := "()V" } : Jvm.MethodName)) ∈ gT := gT_in 938 (by decide +kernel) (by decide +kernel)
set_option maxRecDepth 20000 in
theorem tF_X12_47 : (Jvm.Cond.fieldLink "YesterdayScaleModel" (47 : Nat) "YesterdayScaleModel" "thrown" "I") ∈ gT := gT_in 939 (by decide +kernel) (by decide +kernel)
set_option maxRecDepth 20000 in
theorem tF_X12_51 : (Jvm.Cond.fieldLink "YesterdayScaleModel" (51 : Nat) "YesterdayScaleModel" "status" "I") ∈ gT := gT_in 940 (by decide +kernel) (by decide +kernel)
set_option maxRecDepth 20000 in
theorem tF_X12_7 : (Jvm.Cond.fieldLink "YesterdayScaleModel" (7 : Nat) "YesterdayScaleModel" "lane" "[I") ∈ gT := gT_in 941 (by decide +kernel) (by decide +kernel)
set_option maxRecDepth 20000 in
theorem tF_X12_13 : (Jvm.Cond.fieldLink "YesterdayScaleModel" (13 : Nat) "YesterdayScaleModel" "many" "[I") ∈ gT := gT_in 942 (by decide +kernel) (by decide +kernel)
set_option maxRecDepth 20000 in
theorem tF_X12_16 : (Jvm.Cond.fieldLink "YesterdayScaleModel" (16 : Nat) "YesterdayScaleModel" "item" "[I") ∈ gT := gT_in 943 (by decide +kernel) (by decide +kernel)
set_option maxRecDepth 20000 in
theorem tF_X12_19 : (Jvm.Cond.fieldLink "YesterdayScaleModel" (19 : Nat) "YesterdayScaleModel" "port" "[I") ∈ gT := gT_in 944 (by decide +kernel) (by decide +kernel)
set_option maxRecDepth 20000 in
theorem tF_X12_22 : (Jvm.Cond.fieldLink "YesterdayScaleModel" (22 : Nat) "YesterdayScaleModel" "fresh" "[I") ∈ gT := gT_in 945 (by decide +kernel) (by decide +kernel)
set_option maxRecDepth 20000 in
theorem tF_X12_25 : (Jvm.Cond.fieldLink "YesterdayScaleModel" (25 : Nat) "YesterdayScaleModel" "tape" "[I") ∈ gT := gT_in 946 (by decide +kernel) (by decide +kernel)
set_option maxRecDepth 20000 in
theorem tF_X12_74 : (Jvm.Cond.fieldLink "YesterdayScaleModel" (74 : Nat) "YesterdayScaleModel" "taped" "I") ∈ gT := gT_in 947 (by decide +kernel) (by decide +kernel)
set_option maxRecDepth 20000 in
theorem tF_X12_170 : (Jvm.Cond.fieldLink "YesterdayScaleModel" (170 : Nat) "YesterdayScaleModel" "latest" "I") ∈ gT := gT_in 948 (by decide +kernel) (by decide +kernel)
set_option maxRecDepth 20000 in
theorem tF_X12_80 : (Jvm.Cond.fieldLink "YesterdayScaleModel" (80 : Nat) "YesterdayScaleModel" "length" "I") ∈ gT := gT_in 949 (by decide +kernel) (by decide +kernel)
set_option maxRecDepth 20000 in
theorem tF_X12_84 : (Jvm.Cond.fieldLink "YesterdayScaleModel" (84 : Nat) "YesterdayScaleModel" "cursor" "I") ∈ gT := gT_in 950 (by decide +kernel) (by decide +kernel)
set_option maxRecDepth 20000 in
theorem tF_X12_93 : (Jvm.Cond.fieldLink "YesterdayScaleModel" (93 : Nat) "YesterdayScaleModel" "token" "I") ∈ gT := gT_in 951 (by decide +kernel) (by decide +kernel)
set_option maxRecDepth 20000 in
theorem tF_X12_90 : (Jvm.Cond.fieldLink "YesterdayScaleModel" (90 : Nat) "YesterdayScaleModel" "start" "I") ∈ gT := gT_in 952 (by decide +kernel) (by decide +kernel)
set_option maxRecDepth 20000 in
theorem tF_X12_102 : (Jvm.Cond.fieldLink "YesterdayScaleModel" (102 : Nat) "YesterdayScaleModel" "till" "I") ∈ gT := gT_in 953 (by decide +kernel) (by decide +kernel)
set_option maxRecDepth 20000 in
theorem tF_X12_105 : (Jvm.Cond.fieldLink "YesterdayScaleModel" (105 : Nat) "YesterdayScaleModel" "fault" "I") ∈ gT := gT_in 954 (by decide +kernel) (by decide +kernel)
set_option maxRecDepth 20000 in
theorem tF_X12_111 : (Jvm.Cond.fieldLink "YesterdayScaleModel" (111 : Nat) "YesterdayScaleModel" "faultAt" "I") ∈ gT := gT_in 955 (by decide +kernel) (by decide +kernel)
set_option maxRecDepth 20000 in
theorem tF_X12_28 : (Jvm.Cond.fieldLink "YesterdayScaleModel" (28 : Nat) "YesterdayScaleModel" "weight" "[I") ∈ gT := gT_in 956 (by decide +kernel) (by decide +kernel)
set_option maxRecDepth 20000 in
theorem tF_X12_174 : (Jvm.Cond.fieldLink "YesterdayScaleModel" (174 : Nat) "YesterdayScaleModel" "keeps" "I") ∈ gT := gT_in 957 (by decide +kernel) (by decide +kernel)
set_option maxRecDepth 20000 in
theorem tF_X12_177 : (Jvm.Cond.fieldLink "YesterdayScaleModel" (177 : Nat) "YesterdayScaleModel" "half" "I") ∈ gT := gT_in 958 (by decide +kernel) (by decide +kernel)
set_option maxRecDepth 20000 in
theorem tF_X12_180 : (Jvm.Cond.fieldLink "YesterdayScaleModel" (180 : Nat) "YesterdayScaleModel" "errorAt" "I") ∈ gT := gT_in 959 (by decide +kernel) (by decide +kernel)
set_option maxRecDepth 20000 in
theorem tF_X12_31 : (Jvm.Cond.fieldLink "YesterdayScaleModel" (31 : Nat) "YesterdayScaleModel" "left" "[I") ∈ gT := gT_in 960 (by decide +kernel) (by decide +kernel)
set_option maxRecDepth 20000 in
theorem tF_X12_243 : (Jvm.Cond.fieldLink "YesterdayScaleModel" (243 : Nat) "YesterdayScaleModel" "leftMany" "I") ∈ gT := gT_in 961 (by decide +kernel) (by decide +kernel)
set_option maxRecDepth 20000 in
theorem tF_X12_34 : (Jvm.Cond.fieldLink "YesterdayScaleModel" (34 : Nat) "YesterdayScaleModel" "truly" "[I") ∈ gT := gT_in 962 (by decide +kernel) (by decide +kernel)
set_option maxRecDepth 20000 in
theorem tF_X12_246 : (Jvm.Cond.fieldLink "YesterdayScaleModel" (246 : Nat) "YesterdayScaleModel" "soonMany" "I") ∈ gT := gT_in 963 (by decide +kernel) (by decide +kernel)
set_option maxRecDepth 20000 in
theorem tF_X12_255 : (Jvm.Cond.fieldLink "YesterdayScaleModel" (255 : Nat) "YesterdayScaleModel" "soonSet" "I") ∈ gT := gT_in 964 (by decide +kernel) (by decide +kernel)
set_option maxRecDepth 20000 in
theorem tF_X12_258 : (Jvm.Cond.fieldLink "YesterdayScaleModel" (258 : Nat) "YesterdayScaleModel" "soonOther" "I") ∈ gT := gT_in 965 (by decide +kernel) (by decide +kernel)
set_option maxRecDepth 20000 in
theorem tF_X12_37 : (Jvm.Cond.fieldLink "YesterdayScaleModel" (37 : Nat) "YesterdayScaleModel" "isKept" "[Z") ∈ gT := gT_in 966 (by decide +kernel) (by decide +kernel)
set_option maxRecDepth 20000 in
theorem tF_X12_41 : (Jvm.Cond.fieldLink "YesterdayScaleModel" (41 : Nat) "YesterdayScaleModel" "kept" "[I") ∈ gT := gT_in 967 (by decide +kernel) (by decide +kernel)
set_option maxRecDepth 20000 in
theorem tF_X12_44 : (Jvm.Cond.fieldLink "YesterdayScaleModel" (44 : Nat) "YesterdayScaleModel" "trace" "[I") ∈ gT := gT_in 968 (by decide +kernel) (by decide +kernel)
set_option maxRecDepth 20000 in
theorem tF_X12_270 : (Jvm.Cond.fieldLink "YesterdayScaleModel" (270 : Nat) "YesterdayScaleModel" "traced" "I") ∈ gT := gT_in 969 (by decide +kernel) (by decide +kernel)
set_option maxRecDepth 20000 in
theorem tSup_X12 : (Jvm.Cond.superclass "YesterdayScaleModel" "java/lang/Object") ∈ gT := gT_in 1032 (by decide +kernel) (by decide +kernel)
set_option maxRecDepth 20000 in
theorem tArr_boolean : (Jvm.Cond.arrayClass Jvm.ClassFile.FieldType.boolean) ∈ gT := gT_in 1033 (by decide +kernel) (by decide +kernel)
set_option maxRecDepth 20000 in
theorem tM_L_17 : (Jvm.Cond.methodLink "YesterdayScaleLaw" (17 : Nat) ({ cls := "YesterdayScaleModel", name := "row", desc := "(III)I" } : Jvm.MethodName)) ∈ gT := gT_in 1034 (by decide +kernel) (by decide +kernel)
set_option maxRecDepth 20000 in
theorem tI_X12_row : (Jvm.Cond.instanceMethod ({ cls := "YesterdayScaleModel", name := "row", desc := "(III)I" } : Jvm.MethodName)) ∈ gT := gT_in 1035 (by decide +kernel) (by decide +kernel)
set_option maxRecDepth 20000 in
theorem tSel_X12_X12_X12_row : (Jvm.Cond.selects "YesterdayScaleModel" ({ cls := "YesterdayScaleModel", name := "row", desc := "(III)I" } : Jvm.MethodName) ({ cls := "YesterdayScaleModel", name := "row", desc := "(III)I" } : Jvm.MethodName)) ∈ gT := gT_in 1036 (by decide +kernel) (by decide +kernel)
set_option maxRecDepth 20000 in
theorem tY_X12_row : (Jvm.Cond.code ({ cls := "YesterdayScaleModel", name := "row", desc := "(III)I" } : Jvm.MethodName) prog_14_method_6_code (5 : Nat) (Option.some Jvm.ClassFile.FieldType.int)) ∈ gT := gT_in 1037 (by decide +kernel) (by decide +kernel)
set_option maxRecDepth 20000 in
theorem tM_X12_61 : (Jvm.Cond.methodLink "YesterdayScaleModel" (61 : Nat) ({ cls := "YesterdayScaleModel", name := "isRow", desc := "(I)Z" } : Jvm.MethodName)) ∈ gT := gT_in 1038 (by decide +kernel) (by decide +kernel)
set_option maxRecDepth 20000 in
theorem tS_X12_isRow : (Jvm.Cond.static ({ cls := "YesterdayScaleModel", name := "isRow", desc := "(I)Z" } : Jvm.MethodName)) ∈ gT := gT_in 1039 (by decide +kernel) (by decide +kernel)
set_option maxRecDepth 20000 in
theorem tY_X12_isRow : (Jvm.Cond.code ({ cls := "YesterdayScaleModel", name := "isRow", desc := "(I)Z" } : Jvm.MethodName) prog_14_method_5_code (1 : Nat) (Option.some Jvm.ClassFile.FieldType.boolean)) ∈ gT := gT_in 1040 (by decide +kernel) (by decide +kernel)
set_option maxRecDepth 20000 in
theorem tL_X12_55 : (Jvm.Cond.constantLong "YesterdayScaleModel" (55 : Nat) (7 : Int64)) ∈ gT := gT_in 1041 (by decide +kernel) (by decide +kernel)
set_option maxRecDepth 20000 in
theorem tM_X12_57 : (Jvm.Cond.methodLink "YesterdayScaleModel" (57 : Nat) ({ cls := "YesterdayScaleModel", name := "in", desc := "(JJJ)Z" } : Jvm.MethodName)) ∈ gT := gT_in 1042 (by decide +kernel) (by decide +kernel)
set_option maxRecDepth 20000 in
theorem tS_X12_in : (Jvm.Cond.static ({ cls := "YesterdayScaleModel", name := "in", desc := "(JJJ)Z" } : Jvm.MethodName)) ∈ gT := gT_in 1043 (by decide +kernel) (by decide +kernel)
set_option maxRecDepth 20000 in
theorem tY_X12_in : (Jvm.Cond.code ({ cls := "YesterdayScaleModel", name := "in", desc := "(JJJ)Z" } : Jvm.MethodName) prog_14_method_3_code (6 : Nat) (Option.some Jvm.ClassFile.FieldType.boolean)) ∈ gT := gT_in 1044 (by decide +kernel) (by decide +kernel)
set_option maxRecDepth 20000 in
theorem tL_X12_65 : (Jvm.Cond.constantLong "YesterdayScaleModel" (65 : Nat) (2 : Int64)) ∈ gT := gT_in 1045 (by decide +kernel) (by decide +kernel)
set_option maxRecDepth 20000 in
theorem tK_X12_67 : (Jvm.Cond.constant "YesterdayScaleModel" (67 : Nat) (-1000001 : Int32)) ∈ gT := gT_in 1046 (by decide +kernel) (by decide +kernel)
set_option maxRecDepth 20000 in
theorem tM_X12_68 : (Jvm.Cond.methodLink "YesterdayScaleModel" (68 : Nat) ({ cls := "YesterdayScaleModel", name := "finding", desc := "(I)I" } : Jvm.MethodName)) ∈ gT := gT_in 1047 (by decide +kernel) (by decide +kernel)
set_option maxRecDepth 20000 in
theorem tI_X12_finding : (Jvm.Cond.instanceMethod ({ cls := "YesterdayScaleModel", name := "finding", desc := "(I)I" } : Jvm.MethodName)) ∈ gT := gT_in 1049 (by decide +kernel) (by decide +kernel)
set_option maxRecDepth 20000 in
theorem tY_X12_finding : (Jvm.Cond.code ({ cls := "YesterdayScaleModel", name := "finding", desc := "(I)I" } : Jvm.MethodName) prog_14_method_4_code (2 : Nat) (Option.some Jvm.ClassFile.FieldType.int)) ∈ gT := gT_in 1050 (by decide +kernel) (by decide +kernel)
set_option maxRecDepth 20000 in
theorem tK_X12_54 : (Jvm.Cond.constant "YesterdayScaleModel" (54 : Nat) (-1000010 : Int32)) ∈ gT := gT_in 1051 (by decide +kernel) (by decide +kernel)
set_option maxRecDepth 20000 in
theorem tM_L_21 : (Jvm.Cond.methodLink "YesterdayScaleLaw" (21 : Nat) ({ cls := "YesterdayScaleModel", name := "set", desc := "(III)I" } : Jvm.MethodName)) ∈ gT := gT_in 1052 (by decide +kernel) (by decide +kernel)
set_option maxRecDepth 20000 in
theorem tI_X12_set : (Jvm.Cond.instanceMethod ({ cls := "YesterdayScaleModel", name := "set", desc := "(III)I" } : Jvm.MethodName)) ∈ gT := gT_in 1053 (by decide +kernel) (by decide +kernel)
set_option maxRecDepth 20000 in
theorem tSel_X12_X12_X12_set : (Jvm.Cond.selects "YesterdayScaleModel" ({ cls := "YesterdayScaleModel", name := "set", desc := "(III)I" } : Jvm.MethodName) ({ cls := "YesterdayScaleModel", name := "set", desc := "(III)I" } : Jvm.MethodName)) ∈ gT := gT_in 1054 (by decide +kernel) (by decide +kernel)
set_option maxRecDepth 20000 in
theorem tY_X12_set : (Jvm.Cond.code ({ cls := "YesterdayScaleModel", name := "set", desc := "(III)I" } : Jvm.MethodName) prog_14_method_7_code (4 : Nat) (Option.some Jvm.ClassFile.FieldType.int)) ∈ gT := gT_in 1055 (by decide +kernel) (by decide +kernel)
set_option maxRecDepth 20000 in
theorem tM_L_26 : (Jvm.Cond.methodLink "YesterdayScaleLaw" (26 : Nat) ({ cls := "YesterdayScaleModel", name := "copy", desc := "(IIIII)I" } : Jvm.MethodName)) ∈ gT := gT_in 1056 (by decide +kernel) (by decide +kernel)
set_option maxRecDepth 20000 in
theorem tI_X12_copy : (Jvm.Cond.instanceMethod ({ cls := "YesterdayScaleModel", name := "copy", desc := "(IIIII)I" } : Jvm.MethodName)) ∈ gT := gT_in 1057 (by decide +kernel) (by decide +kernel)
set_option maxRecDepth 20000 in
theorem tSel_X12_X12_X12_copy : (Jvm.Cond.selects "YesterdayScaleModel" ({ cls := "YesterdayScaleModel", name := "copy", desc := "(IIIII)I" } : Jvm.MethodName) ({ cls := "YesterdayScaleModel", name := "copy", desc := "(IIIII)I" } : Jvm.MethodName)) ∈ gT := gT_in 1058 (by decide +kernel) (by decide +kernel)
set_option maxRecDepth 20000 in
theorem tY_X12_copy : (Jvm.Cond.code ({ cls := "YesterdayScaleModel", name := "copy", desc := "(IIIII)I" } : Jvm.MethodName) prog_14_method_8_code (9 : Nat) (Option.some Jvm.ClassFile.FieldType.int)) ∈ gT := gT_in 1059 (by decide +kernel) (by decide +kernel)
set_option maxRecDepth 20000 in
theorem tM_L_31 : (Jvm.Cond.methodLink "YesterdayScaleLaw" (31 : Nat) ({ cls := "YesterdayScaleModel", name := "drop", desc := "(I)I" } : Jvm.MethodName)) ∈ gT := gT_in 1060 (by decide +kernel) (by decide +kernel)
set_option maxRecDepth 20000 in
theorem tI_X12_drop : (Jvm.Cond.instanceMethod ({ cls := "YesterdayScaleModel", name := "drop", desc := "(I)I" } : Jvm.MethodName)) ∈ gT := gT_in 1061 (by decide +kernel) (by decide +kernel)
set_option maxRecDepth 20000 in
theorem tSel_X12_X12_X12_drop : (Jvm.Cond.selects "YesterdayScaleModel" ({ cls := "YesterdayScaleModel", name := "drop", desc := "(I)I" } : Jvm.MethodName) ({ cls := "YesterdayScaleModel", name := "drop", desc := "(I)I" } : Jvm.MethodName)) ∈ gT := gT_in 1062 (by decide +kernel) (by decide +kernel)
set_option maxRecDepth 20000 in
theorem tY_X12_drop : (Jvm.Cond.code ({ cls := "YesterdayScaleModel", name := "drop", desc := "(I)I" } : Jvm.MethodName) prog_14_method_9_code (2 : Nat) (Option.some Jvm.ClassFile.FieldType.int)) ∈ gT := gT_in 1063 (by decide +kernel) (by decide +kernel)
set_option maxRecDepth 20000 in
theorem tM_L_38 : (Jvm.Cond.methodLink "YesterdayScaleLaw" (38 : Nat) ({ cls := "YesterdayScaleModel", name := "feed", desc := "(JI)I" } : Jvm.MethodName)) ∈ gT := gT_in 1064 (by decide +kernel) (by decide +kernel)
set_option maxRecDepth 20000 in
theorem tI_X12_feed : (Jvm.Cond.instanceMethod ({ cls := "YesterdayScaleModel", name := "feed", desc := "(JI)I" } : Jvm.MethodName)) ∈ gT := gT_in 1065 (by decide +kernel) (by decide +kernel)
set_option maxRecDepth 20000 in
theorem tSel_X12_X12_X12_feed : (Jvm.Cond.selects "YesterdayScaleModel" ({ cls := "YesterdayScaleModel", name := "feed", desc := "(JI)I" } : Jvm.MethodName) ({ cls := "YesterdayScaleModel", name := "feed", desc := "(JI)I" } : Jvm.MethodName)) ∈ gT := gT_in 1066 (by decide +kernel) (by decide +kernel)
set_option maxRecDepth 20000 in
theorem tY_X12_feed : (Jvm.Cond.code ({ cls := "YesterdayScaleModel", name := "feed", desc := "(JI)I" } : Jvm.MethodName) prog_14_method_10_code (5 : Nat) (Option.some Jvm.ClassFile.FieldType.int)) ∈ gT := gT_in 1067 (by decide +kernel) (by decide +kernel)
set_option maxRecDepth 20000 in
theorem tL_X12_72 : (Jvm.Cond.constantLong "YesterdayScaleModel" (72 : Nat) (8 : Int64)) ∈ gT := gT_in 1068 (by decide +kernel) (by decide +kernel)
set_option maxRecDepth 20000 in
theorem tK_X12_77 : (Jvm.Cond.constant "YesterdayScaleModel" (77 : Nat) (-1000003 : Int32)) ∈ gT := gT_in 1069 (by decide +kernel) (by decide +kernel)
set_option maxRecDepth 20000 in
theorem tL_X12_78 : (Jvm.Cond.constantLong "YesterdayScaleModel" (78 : Nat) (255 : Int64)) ∈ gT := gT_in 1070 (by decide +kernel) (by decide +kernel)
set_option maxRecDepth 20000 in
theorem tM_L_43 : (Jvm.Cond.methodLink "YesterdayScaleLaw" (43 : Nat) ({ cls := "YesterdayScaleModel", name := "port", desc := "()I" } : Jvm.MethodName)) ∈ gT := gT_in 1071 (by decide +kernel) (by decide +kernel)
set_option maxRecDepth 20000 in
theorem tI_X12_port : (Jvm.Cond.instanceMethod ({ cls := "YesterdayScaleModel", name := "port", desc := "()I" } : Jvm.MethodName)) ∈ gT := gT_in 1072 (by decide +kernel) (by decide +kernel)
set_option maxRecDepth 20000 in
theorem tSel_X12_X12_X12_port : (Jvm.Cond.selects "YesterdayScaleModel" ({ cls := "YesterdayScaleModel", name := "port", desc := "()I" } : Jvm.MethodName) ({ cls := "YesterdayScaleModel", name := "port", desc := "()I" } : Jvm.MethodName)) ∈ gT := gT_in 1073 (by decide +kernel) (by decide +kernel)
set_option maxRecDepth 20000 in
theorem tY_X12_port : (Jvm.Cond.code ({ cls := "YesterdayScaleModel", name := "port", desc := "()I" } : Jvm.MethodName) prog_14_method_26_code (2 : Nat) (Option.some Jvm.ClassFile.FieldType.int)) ∈ gT := gT_in 1074 (by decide +kernel) (by decide +kernel)
set_option maxRecDepth 20000 in
theorem tM_X12_155 : (Jvm.Cond.methodLink "YesterdayScaleModel" (155 : Nat) ({ cls := "YesterdayScaleModel", name := "begin", desc := "()V" } : Jvm.MethodName)) ∈ gT := gT_in 1075 (by decide +kernel) (by decide +kernel)
set_option maxRecDepth 20000 in
theorem tI_X12_begin : (Jvm.Cond.instanceMethod ({ cls := "YesterdayScaleModel", name := "begin", desc := "()V" } : Jvm.MethodName)) ∈ gT := gT_in 1077 (by decide +kernel) (by decide +kernel)
set_option maxRecDepth 20000 in
theorem tY_X12_begin : (Jvm.Cond.code ({ cls := "YesterdayScaleModel", name := "begin", desc := "()V" } : Jvm.MethodName) prog_14_method_15_code (1 : Nat) (Option.none : Option Jvm.ClassFile.FieldType)) ∈ gT := gT_in 1078 (by decide +kernel) (by decide +kernel)
set_option maxRecDepth 20000 in
theorem tM_X12_108 : (Jvm.Cond.methodLink "YesterdayScaleModel" (108 : Nat) ({ cls := "YesterdayScaleModel", name := "nextToken", desc := "()V" } : Jvm.MethodName)) ∈ gT := gT_in 1079 (by decide +kernel) (by decide +kernel)
set_option maxRecDepth 20000 in
theorem tI_X12_nextToken : (Jvm.Cond.instanceMethod ({ cls := "YesterdayScaleModel", name := "nextToken", desc := "()V" } : Jvm.MethodName)) ∈ gT := gT_in 1081 (by decide +kernel) (by decide +kernel)
set_option maxRecDepth 20000 in
theorem tY_X12_nextToken : (Jvm.Cond.code ({ cls := "YesterdayScaleModel", name := "nextToken", desc := "()V" } : Jvm.MethodName) prog_14_method_14_code (2 : Nat) (Option.none : Option Jvm.ClassFile.FieldType)) ∈ gT := gT_in 1082 (by decide +kernel) (by decide +kernel)
set_option maxRecDepth 20000 in
theorem tM_X12_87 : (Jvm.Cond.methodLink "YesterdayScaleModel" (87 : Nat) ({ cls := "YesterdayScaleModel", name := "byteAt", desc := "(I)I" } : Jvm.MethodName)) ∈ gT := gT_in 1083 (by decide +kernel) (by decide +kernel)
set_option maxRecDepth 20000 in
theorem tI_X12_byteAt : (Jvm.Cond.instanceMethod ({ cls := "YesterdayScaleModel", name := "byteAt", desc := "(I)I" } : Jvm.MethodName)) ∈ gT := gT_in 1085 (by decide +kernel) (by decide +kernel)
set_option maxRecDepth 20000 in
theorem tY_X12_byteAt : (Jvm.Cond.code ({ cls := "YesterdayScaleModel", name := "byteAt", desc := "(I)I" } : Jvm.MethodName) prog_14_method_11_code (2 : Nat) (Option.some Jvm.ClassFile.FieldType.int)) ∈ gT := gT_in 1086 (by decide +kernel) (by decide +kernel)
set_option maxRecDepth 20000 in
theorem tK_X12_83 : (Jvm.Cond.constant "YesterdayScaleModel" (83 : Nat) (-1000000 : Int32)) ∈ gT := gT_in 1087 (by decide +kernel) (by decide +kernel)
set_option maxRecDepth 20000 in
theorem tM_X12_96 : (Jvm.Cond.methodLink "YesterdayScaleModel" (96 : Nat) ({ cls := "YesterdayScaleModel", name := "isLetter", desc := "(I)Z" } : Jvm.MethodName)) ∈ gT := gT_in 1088 (by decide +kernel) (by decide +kernel)
set_option maxRecDepth 20000 in
theorem tS_X12_isLetter : (Jvm.Cond.static ({ cls := "YesterdayScaleModel", name := "isLetter", desc := "(I)Z" } : Jvm.MethodName)) ∈ gT := gT_in 1089 (by decide +kernel) (by decide +kernel)
set_option maxRecDepth 20000 in
theorem tY_X12_isLetter : (Jvm.Cond.code ({ cls := "YesterdayScaleModel", name := "isLetter", desc := "(I)Z" } : Jvm.MethodName) prog_14_method_12_code (1 : Nat) (Option.some Jvm.ClassFile.FieldType.boolean)) ∈ gT := gT_in 1090 (by decide +kernel) (by decide +kernel)
set_option maxRecDepth 20000 in
theorem tM_X12_99 : (Jvm.Cond.methodLink "YesterdayScaleModel" (99 : Nat) ({ cls := "YesterdayScaleModel", name := "isFigure", desc := "(I)Z" } : Jvm.MethodName)) ∈ gT := gT_in 1091 (by decide +kernel) (by decide +kernel)
set_option maxRecDepth 20000 in
theorem tS_X12_isFigure : (Jvm.Cond.static ({ cls := "YesterdayScaleModel", name := "isFigure", desc := "(I)Z" } : Jvm.MethodName)) ∈ gT := gT_in 1092 (by decide +kernel) (by decide +kernel)
set_option maxRecDepth 20000 in
theorem tY_X12_isFigure : (Jvm.Cond.code ({ cls := "YesterdayScaleModel", name := "isFigure", desc := "(I)Z" } : Jvm.MethodName) prog_14_method_13_code (1 : Nat) (Option.some Jvm.ClassFile.FieldType.boolean)) ∈ gT := gT_in 1093 (by decide +kernel) (by decide +kernel)
set_option maxRecDepth 20000 in
theorem tM_X12_140 : (Jvm.Cond.methodLink "YesterdayScaleModel" (140 : Nat) ({ cls := "YesterdayScaleModel", name := "name", desc := "()J" } : Jvm.MethodName)) ∈ gT := gT_in 1094 (by decide +kernel) (by decide +kernel)
set_option maxRecDepth 20000 in
theorem tI_X12_name : (Jvm.Cond.instanceMethod ({ cls := "YesterdayScaleModel", name := "name", desc := "()J" } : Jvm.MethodName)) ∈ gT := gT_in 1096 (by decide +kernel) (by decide +kernel)
set_option maxRecDepth 20000 in
theorem tY_X12_name : (Jvm.Cond.code ({ cls := "YesterdayScaleModel", name := "name", desc := "()J" } : Jvm.MethodName) prog_14_method_18_code (4 : Nat) (Option.some Jvm.ClassFile.FieldType.long)) ∈ gT := gT_in 1097 (by decide +kernel) (by decide +kernel)
set_option maxRecDepth 20000 in
theorem tL_X12_158 : (Jvm.Cond.constantLong "YesterdayScaleModel" (158 : Nat) (7102839 : Int64)) ∈ gT := gT_in 1098 (by decide +kernel) (by decide +kernel)
set_option maxRecDepth 20000 in
theorem tM_X12_122 : (Jvm.Cond.methodLink "YesterdayScaleModel" (122 : Nat) ({ cls := "YesterdayScaleModel", name := "must", desc := "(Z)V" } : Jvm.MethodName)) ∈ gT := gT_in 1099 (by decide +kernel) (by decide +kernel)
set_option maxRecDepth 20000 in
theorem tI_X12_must : (Jvm.Cond.instanceMethod ({ cls := "YesterdayScaleModel", name := "must", desc := "(Z)V" } : Jvm.MethodName)) ∈ gT := gT_in 1101 (by decide +kernel) (by decide +kernel)
set_option maxRecDepth 20000 in
theorem tY_X12_must : (Jvm.Cond.code ({ cls := "YesterdayScaleModel", name := "must", desc := "(Z)V" } : Jvm.MethodName) prog_14_method_17_code (2 : Nat) (Option.none : Option Jvm.ClassFile.FieldType)) ∈ gT := gT_in 1102 (by decide +kernel) (by decide +kernel)
set_option maxRecDepth 20000 in
theorem tM_X12_114 : (Jvm.Cond.methodLink "YesterdayScaleModel" (114 : Nat) ({ cls := "YesterdayScaleModel", name := "bad", desc := "(I)V" } : Jvm.MethodName)) ∈ gT := gT_in 1103 (by decide +kernel) (by decide +kernel)
set_option maxRecDepth 20000 in
theorem tI_X12_bad : (Jvm.Cond.instanceMethod ({ cls := "YesterdayScaleModel", name := "bad", desc := "(I)V" } : Jvm.MethodName)) ∈ gT := gT_in 1105 (by decide +kernel) (by decide +kernel)
set_option maxRecDepth 20000 in
theorem tY_X12_bad : (Jvm.Cond.code ({ cls := "YesterdayScaleModel", name := "bad", desc := "(I)V" } : Jvm.MethodName) prog_14_method_16_code (2 : Nat) (Option.none : Option Jvm.ClassFile.FieldType)) ∈ gT := gT_in 1106 (by decide +kernel) (by decide +kernel)
set_option maxRecDepth 20000 in
theorem tM_X12_148 : (Jvm.Cond.methodLink "YesterdayScaleModel" (148 : Nat) ({ cls := "YesterdayScaleModel", name := "number", desc := "(II)I" } : Jvm.MethodName)) ∈ gT := gT_in 1107 (by decide +kernel) (by decide +kernel)
set_option maxRecDepth 20000 in
theorem tI_X12_number : (Jvm.Cond.instanceMethod ({ cls := "YesterdayScaleModel", name := "number", desc := "(II)I" } : Jvm.MethodName)) ∈ gT := gT_in 1109 (by decide +kernel) (by decide +kernel)
set_option maxRecDepth 20000 in
theorem tY_X12_number : (Jvm.Cond.code ({ cls := "YesterdayScaleModel", name := "number", desc := "(II)I" } : Jvm.MethodName) prog_14_method_20_code (4 : Nat) (Option.some Jvm.ClassFile.FieldType.int)) ∈ gT := gT_in 1110 (by decide +kernel) (by decide +kernel)
set_option maxRecDepth 20000 in
theorem tM_X12_118 : (Jvm.Cond.methodLink "YesterdayScaleModel" (118 : Nat) ({ cls := "YesterdayScaleModel", name := "figures", desc := "()I" } : Jvm.MethodName)) ∈ gT := gT_in 1111 (by decide +kernel) (by decide +kernel)
set_option maxRecDepth 20000 in
theorem tI_X12_figures : (Jvm.Cond.instanceMethod ({ cls := "YesterdayScaleModel", name := "figures", desc := "()I" } : Jvm.MethodName)) ∈ gT := gT_in 1113 (by decide +kernel) (by decide +kernel)
set_option maxRecDepth 20000 in
theorem tY_X12_figures : (Jvm.Cond.code ({ cls := "YesterdayScaleModel", name := "figures", desc := "()I" } : Jvm.MethodName) prog_14_method_19_code (3 : Nat) (Option.some Jvm.ClassFile.FieldType.int)) ∈ gT := gT_in 1114 (by decide +kernel) (by decide +kernel)
set_option maxRecDepth 20000 in
theorem tM_X12_152 : (Jvm.Cond.methodLink "YesterdayScaleModel" (152 : Nat) ({ cls := "YesterdayScaleModel", name := "mustEnd", desc := "()V" } : Jvm.MethodName)) ∈ gT := gT_in 1115 (by decide +kernel) (by decide +kernel)
set_option maxRecDepth 20000 in
theorem tI_X12_mustEnd : (Jvm.Cond.instanceMethod ({ cls := "YesterdayScaleModel", name := "mustEnd", desc := "()V" } : Jvm.MethodName)) ∈ gT := gT_in 1117 (by decide +kernel) (by decide +kernel)
set_option maxRecDepth 20000 in
theorem tY_X12_mustEnd : (Jvm.Cond.code ({ cls := "YesterdayScaleModel", name := "mustEnd", desc := "()V" } : Jvm.MethodName) prog_14_method_22_code (1 : Nat) (Option.none : Option Jvm.ClassFile.FieldType)) ∈ gT := gT_in 1118 (by decide +kernel) (by decide +kernel)
set_option maxRecDepth 20000 in
theorem tL_X12_160 : (Jvm.Cond.constantLong "YesterdayScaleModel" (160 : Nat) (499967946343 : Int64)) ∈ gT := gT_in 1119 (by decide +kernel) (by decide +kernel)
set_option maxRecDepth 20000 in
theorem tM_X12_162 : (Jvm.Cond.methodLink "YesterdayScaleModel" (162 : Nat) ({ cls := "YesterdayScaleModel", name := "readThing", desc := "()V" } : Jvm.MethodName)) ∈ gT := gT_in 1120 (by decide +kernel) (by decide +kernel)
set_option maxRecDepth 20000 in
theorem tI_X12_readThing : (Jvm.Cond.instanceMethod ({ cls := "YesterdayScaleModel", name := "readThing", desc := "()V" } : Jvm.MethodName)) ∈ gT := gT_in 1122 (by decide +kernel) (by decide +kernel)
set_option maxRecDepth 20000 in
theorem tY_X12_readThing : (Jvm.Cond.code ({ cls := "YesterdayScaleModel", name := "readThing", desc := "()V" } : Jvm.MethodName) prog_14_method_24_code (3 : Nat) (Option.none : Option Jvm.ClassFile.FieldType)) ∈ gT := gT_in 1123 (by decide +kernel) (by decide +kernel)
set_option maxRecDepth 20000 in
theorem tM_X12_136 : (Jvm.Cond.methodLink "YesterdayScaleModel" (136 : Nat) ({ cls := "YesterdayScaleModel", name := "begins", desc := "(II)V" } : Jvm.MethodName)) ∈ gT := gT_in 1124 (by decide +kernel) (by decide +kernel)
set_option maxRecDepth 20000 in
theorem tI_X12_begins : (Jvm.Cond.instanceMethod ({ cls := "YesterdayScaleModel", name := "begins", desc := "(II)V" } : Jvm.MethodName)) ∈ gT := gT_in 1126 (by decide +kernel) (by decide +kernel)
set_option maxRecDepth 20000 in
theorem tY_X12_begins : (Jvm.Cond.code ({ cls := "YesterdayScaleModel", name := "begins", desc := "(II)V" } : Jvm.MethodName) prog_14_method_23_code (3 : Nat) (Option.none : Option Jvm.ClassFile.FieldType)) ∈ gT := gT_in 1127 (by decide +kernel) (by decide +kernel)
set_option maxRecDepth 20000 in
theorem tM_X12_144 : (Jvm.Cond.methodLink "YesterdayScaleModel" (144 : Nat) ({ cls := "YesterdayScaleModel", name := "kindBy", desc := "(J)I" } : Jvm.MethodName)) ∈ gT := gT_in 1128 (by decide +kernel) (by decide +kernel)
set_option maxRecDepth 20000 in
theorem tS_X12_kindBy : (Jvm.Cond.static ({ cls := "YesterdayScaleModel", name := "kindBy", desc := "(J)I" } : Jvm.MethodName)) ∈ gT := gT_in 1129 (by decide +kernel) (by decide +kernel)
set_option maxRecDepth 20000 in
theorem tY_X12_kindBy : (Jvm.Cond.code ({ cls := "YesterdayScaleModel", name := "kindBy", desc := "(J)I" } : Jvm.MethodName) prog_14_method_21_code (2 : Nat) (Option.some Jvm.ClassFile.FieldType.int)) ∈ gT := gT_in 1130 (by decide +kernel) (by decide +kernel)
set_option maxRecDepth 20000 in
theorem tL_X12_126 : (Jvm.Cond.constantLong "YesterdayScaleModel" (126 : Nat) (1935764596 : Int64)) ∈ gT := gT_in 1131 (by decide +kernel) (by decide +kernel)
set_option maxRecDepth 20000 in
theorem tL_X12_128 : (Jvm.Cond.constantLong "YesterdayScaleModel" (128 : Nat) (1718186856 : Int64)) ∈ gT := gT_in 1132 (by decide +kernel) (by decide +kernel)
set_option maxRecDepth 20000 in
theorem tL_X12_130 : (Jvm.Cond.constantLong "YesterdayScaleModel" (130 : Nat) (495874698853 : Int64)) ∈ gT := gT_in 1133 (by decide +kernel) (by decide +kernel)
set_option maxRecDepth 20000 in
theorem tL_X12_132 : (Jvm.Cond.constantLong "YesterdayScaleModel" (132 : Nat) (2003791724 : Int64)) ∈ gT := gT_in 1134 (by decide +kernel) (by decide +kernel)
set_option maxRecDepth 20000 in
theorem tL_X12_134 : (Jvm.Cond.constantLong "YesterdayScaleModel" (134 : Nat) (512852323429 : Int64)) ∈ gT := gT_in 1135 (by decide +kernel) (by decide +kernel)
set_option maxRecDepth 20000 in
theorem tL_X12_165 : (Jvm.Cond.constantLong "YesterdayScaleModel" (165 : Nat) (6578553 : Int64)) ∈ gT := gT_in 1136 (by decide +kernel) (by decide +kernel)
set_option maxRecDepth 20000 in
theorem tM_X12_167 : (Jvm.Cond.methodLink "YesterdayScaleModel" (167 : Nat) ({ cls := "YesterdayScaleModel", name := "readDay", desc := "()V" } : Jvm.MethodName)) ∈ gT := gT_in 1137 (by decide +kernel) (by decide +kernel)
set_option maxRecDepth 20000 in
theorem tI_X12_readDay : (Jvm.Cond.instanceMethod ({ cls := "YesterdayScaleModel", name := "readDay", desc := "()V" } : Jvm.MethodName)) ∈ gT := gT_in 1139 (by decide +kernel) (by decide +kernel)
set_option maxRecDepth 20000 in
theorem tY_X12_readDay : (Jvm.Cond.code ({ cls := "YesterdayScaleModel", name := "readDay", desc := "()V" } : Jvm.MethodName) prog_14_method_25_code (2 : Nat) (Option.none : Option Jvm.ClassFile.FieldType)) ∈ gT := gT_in 1140 (by decide +kernel) (by decide +kernel)
set_option maxRecDepth 20000 in
theorem tK_X12_173 : (Jvm.Cond.constant "YesterdayScaleModel" (173 : Nat) (-1000100 : Int32)) ∈ gT := gT_in 1141 (by decide +kernel) (by decide +kernel)
set_option maxRecDepth 20000 in
theorem tM_L_47 : (Jvm.Cond.methodLink "YesterdayScaleLaw" (47 : Nat) ({ cls := "YesterdayScaleModel", name := "fault", desc := "()I" } : Jvm.MethodName)) ∈ gT := gT_in 1142 (by decide +kernel) (by decide +kernel)
set_option maxRecDepth 20000 in
theorem tI_X12_fault : (Jvm.Cond.instanceMethod ({ cls := "YesterdayScaleModel", name := "fault", desc := "()I" } : Jvm.MethodName)) ∈ gT := gT_in 1143 (by decide +kernel) (by decide +kernel)
set_option maxRecDepth 20000 in
theorem tSel_X12_X12_X12_fault : (Jvm.Cond.selects "YesterdayScaleModel" ({ cls := "YesterdayScaleModel", name := "fault", desc := "()I" } : Jvm.MethodName) ({ cls := "YesterdayScaleModel", name := "fault", desc := "()I" } : Jvm.MethodName)) ∈ gT := gT_in 1144 (by decide +kernel) (by decide +kernel)
set_option maxRecDepth 20000 in
theorem tY_X12_fault : (Jvm.Cond.code ({ cls := "YesterdayScaleModel", name := "fault", desc := "()I" } : Jvm.MethodName) prog_14_method_27_code (1 : Nat) (Option.some Jvm.ClassFile.FieldType.int)) ∈ gT := gT_in 1145 (by decide +kernel) (by decide +kernel)
set_option maxRecDepth 20000 in
theorem tM_L_51 : (Jvm.Cond.methodLink "YesterdayScaleLaw" (51 : Nat) ({ cls := "YesterdayScaleModel", name := "day", desc := "(I)I" } : Jvm.MethodName)) ∈ gT := gT_in 1146 (by decide +kernel) (by decide +kernel)
set_option maxRecDepth 20000 in
theorem tI_X12_day : (Jvm.Cond.instanceMethod ({ cls := "YesterdayScaleModel", name := "day", desc := "(I)I" } : Jvm.MethodName)) ∈ gT := gT_in 1147 (by decide +kernel) (by decide +kernel)
set_option maxRecDepth 20000 in
theorem tSel_X12_X12_X12_day : (Jvm.Cond.selects "YesterdayScaleModel" ({ cls := "YesterdayScaleModel", name := "day", desc := "(I)I" } : Jvm.MethodName) ({ cls := "YesterdayScaleModel", name := "day", desc := "(I)I" } : Jvm.MethodName)) ∈ gT := gT_in 1148 (by decide +kernel) (by decide +kernel)
set_option maxRecDepth 20000 in
theorem tY_X12_day : (Jvm.Cond.code ({ cls := "YesterdayScaleModel", name := "day", desc := "(I)I" } : Jvm.MethodName) prog_14_method_40_code (2 : Nat) (Option.some Jvm.ClassFile.FieldType.int)) ∈ gT := gT_in 1149 (by decide +kernel) (by decide +kernel)
set_option maxRecDepth 20000 in
theorem tM_X12_195 : (Jvm.Cond.methodLink "YesterdayScaleModel" (195 : Nat) ({ cls := "YesterdayScaleModel", name := "isThere", desc := "()Z" } : Jvm.MethodName)) ∈ gT := gT_in 1150 (by decide +kernel) (by decide +kernel)
set_option maxRecDepth 20000 in
theorem tI_X12_isThere : (Jvm.Cond.instanceMethod ({ cls := "YesterdayScaleModel", name := "isThere", desc := "()Z" } : Jvm.MethodName)) ∈ gT := gT_in 1152 (by decide +kernel) (by decide +kernel)
set_option maxRecDepth 20000 in
theorem tY_X12_isThere : (Jvm.Cond.code ({ cls := "YesterdayScaleModel", name := "isThere", desc := "()Z" } : Jvm.MethodName) prog_14_method_28_code (1 : Nat) (Option.some Jvm.ClassFile.FieldType.boolean)) ∈ gT := gT_in 1153 (by decide +kernel) (by decide +kernel)
set_option maxRecDepth 20000 in
theorem tK_X12_199 : (Jvm.Cond.constant "YesterdayScaleModel" (199 : Nat) (-1000002 : Int32)) ∈ gT := gT_in 1154 (by decide +kernel) (by decide +kernel)
set_option maxRecDepth 20000 in
theorem tM_X12_200 : (Jvm.Cond.methodLink "YesterdayScaleModel" (200 : Nat) ({ cls := "YesterdayScaleModel", name := "isSet", desc := "(I)Z" } : Jvm.MethodName)) ∈ gT := gT_in 1155 (by decide +kernel) (by decide +kernel)
set_option maxRecDepth 20000 in
theorem tI_X12_isSet : (Jvm.Cond.instanceMethod ({ cls := "YesterdayScaleModel", name := "isSet", desc := "(I)Z" } : Jvm.MethodName)) ∈ gT := gT_in 1157 (by decide +kernel) (by decide +kernel)
set_option maxRecDepth 20000 in
theorem tY_X12_isSet : (Jvm.Cond.code ({ cls := "YesterdayScaleModel", name := "isSet", desc := "(I)Z" } : Jvm.MethodName) prog_14_method_31_code (2 : Nat) (Option.some Jvm.ClassFile.FieldType.boolean)) ∈ gT := gT_in 1158 (by decide +kernel) (by decide +kernel)
set_option maxRecDepth 20000 in
theorem tM_X12_203 : (Jvm.Cond.methodLink "YesterdayScaleModel" (203 : Nat) ({ cls := "YesterdayScaleModel", name := "layTruly", desc := "()V" } : Jvm.MethodName)) ∈ gT := gT_in 1159 (by decide +kernel) (by decide +kernel)
set_option maxRecDepth 20000 in
theorem tI_X12_layTruly : (Jvm.Cond.instanceMethod ({ cls := "YesterdayScaleModel", name := "layTruly", desc := "()V" } : Jvm.MethodName)) ∈ gT := gT_in 1161 (by decide +kernel) (by decide +kernel)
set_option maxRecDepth 20000 in
theorem tY_X12_layTruly : (Jvm.Cond.code ({ cls := "YesterdayScaleModel", name := "layTruly", desc := "()V" } : Jvm.MethodName) prog_14_method_33_code (2 : Nat) (Option.none : Option Jvm.ClassFile.FieldType)) ∈ gT := gT_in 1162 (by decide +kernel) (by decide +kernel)
set_option maxRecDepth 20000 in
theorem tM_X12_206 : (Jvm.Cond.methodLink "YesterdayScaleModel" (206 : Nat) ({ cls := "YesterdayScaleModel", name := "shows", desc := "(I)I" } : Jvm.MethodName)) ∈ gT := gT_in 1163 (by decide +kernel) (by decide +kernel)
set_option maxRecDepth 20000 in
theorem tI_X12_shows : (Jvm.Cond.instanceMethod ({ cls := "YesterdayScaleModel", name := "shows", desc := "(I)I" } : Jvm.MethodName)) ∈ gT := gT_in 1165 (by decide +kernel) (by decide +kernel)
set_option maxRecDepth 20000 in
theorem tY_X12_shows : (Jvm.Cond.code ({ cls := "YesterdayScaleModel", name := "shows", desc := "(I)I" } : Jvm.MethodName) prog_14_method_39_code (5 : Nat) (Option.some Jvm.ClassFile.FieldType.int)) ∈ gT := gT_in 1166 (by decide +kernel) (by decide +kernel)
set_option maxRecDepth 20000 in
theorem tM_X12_189 : (Jvm.Cond.methodLink "YesterdayScaleModel" (189 : Nat) ({ cls := "YesterdayScaleModel", name := "loadOn", desc := "(I)I" } : Jvm.MethodName)) ∈ gT := gT_in 1167 (by decide +kernel) (by decide +kernel)
set_option maxRecDepth 20000 in
theorem tI_X12_loadOn : (Jvm.Cond.instanceMethod ({ cls := "YesterdayScaleModel", name := "loadOn", desc := "(I)I" } : Jvm.MethodName)) ∈ gT := gT_in 1169 (by decide +kernel) (by decide +kernel)
set_option maxRecDepth 20000 in
theorem tY_X12_loadOn : (Jvm.Cond.code ({ cls := "YesterdayScaleModel", name := "loadOn", desc := "(I)I" } : Jvm.MethodName) prog_14_method_37_code (4 : Nat) (Option.some Jvm.ClassFile.FieldType.int)) ∈ gT := gT_in 1170 (by decide +kernel) (by decide +kernel)
set_option maxRecDepth 20000 in
theorem tM_X12_186 : (Jvm.Cond.methodLink "YesterdayScaleModel" (186 : Nat) ({ cls := "YesterdayScaleModel", name := "heavyOn", desc := "(II)I" } : Jvm.MethodName)) ∈ gT := gT_in 1171 (by decide +kernel) (by decide +kernel)
set_option maxRecDepth 20000 in
theorem tI_X12_heavyOn : (Jvm.Cond.instanceMethod ({ cls := "YesterdayScaleModel", name := "heavyOn", desc := "(II)I" } : Jvm.MethodName)) ∈ gT := gT_in 1173 (by decide +kernel) (by decide +kernel)
set_option maxRecDepth 20000 in
theorem tY_X12_heavyOn : (Jvm.Cond.code ({ cls := "YesterdayScaleModel", name := "heavyOn", desc := "(II)I" } : Jvm.MethodName) prog_14_method_36_code (3 : Nat) (Option.some Jvm.ClassFile.FieldType.int)) ∈ gT := gT_in 1174 (by decide +kernel) (by decide +kernel)
set_option maxRecDepth 20000 in
theorem tM_X12_183 : (Jvm.Cond.methodLink "YesterdayScaleModel" (183 : Nat) ({ cls := "YesterdayScaleModel", name := "kindOf", desc := "(I)I" } : Jvm.MethodName)) ∈ gT := gT_in 1175 (by decide +kernel) (by decide +kernel)
set_option maxRecDepth 20000 in
theorem tI_X12_kindOf : (Jvm.Cond.instanceMethod ({ cls := "YesterdayScaleModel", name := "kindOf", desc := "(I)I" } : Jvm.MethodName)) ∈ gT := gT_in 1177 (by decide +kernel) (by decide +kernel)
set_option maxRecDepth 20000 in
theorem tY_X12_kindOf : (Jvm.Cond.code ({ cls := "YesterdayScaleModel", name := "kindOf", desc := "(I)I" } : Jvm.MethodName) prog_14_method_32_code (2 : Nat) (Option.some Jvm.ClassFile.FieldType.int)) ∈ gT := gT_in 1178 (by decide +kernel) (by decide +kernel)
set_option maxRecDepth 20000 in
theorem tM_X12_192 : (Jvm.Cond.methodLink "YesterdayScaleModel" (192 : Nat) ({ cls := "YesterdayScaleModel", name := "isFresh", desc := "(I)Z" } : Jvm.MethodName)) ∈ gT := gT_in 1179 (by decide +kernel) (by decide +kernel)
set_option maxRecDepth 20000 in
theorem tI_X12_isFresh : (Jvm.Cond.instanceMethod ({ cls := "YesterdayScaleModel", name := "isFresh", desc := "(I)Z" } : Jvm.MethodName)) ∈ gT := gT_in 1181 (by decide +kernel) (by decide +kernel)
set_option maxRecDepth 20000 in
theorem tY_X12_isFresh : (Jvm.Cond.code ({ cls := "YesterdayScaleModel", name := "isFresh", desc := "(I)Z" } : Jvm.MethodName) prog_14_method_38_code (4 : Nat) (Option.some Jvm.ClassFile.FieldType.boolean)) ∈ gT := gT_in 1182 (by decide +kernel) (by decide +kernel)
set_option maxRecDepth 20000 in
theorem tM_L_55 : (Jvm.Cond.methodLink "YesterdayScaleLaw" (55 : Nat) ({ cls := "YesterdayScaleModel", name := "undo", desc := "()I" } : Jvm.MethodName)) ∈ gT := gT_in 1183 (by decide +kernel) (by decide +kernel)
set_option maxRecDepth 20000 in
theorem tI_X12_undo : (Jvm.Cond.instanceMethod ({ cls := "YesterdayScaleModel", name := "undo", desc := "()I" } : Jvm.MethodName)) ∈ gT := gT_in 1184 (by decide +kernel) (by decide +kernel)
set_option maxRecDepth 20000 in
theorem tSel_X12_X12_X12_undo : (Jvm.Cond.selects "YesterdayScaleModel" ({ cls := "YesterdayScaleModel", name := "undo", desc := "()I" } : Jvm.MethodName) ({ cls := "YesterdayScaleModel", name := "undo", desc := "()I" } : Jvm.MethodName)) ∈ gT := gT_in 1185 (by decide +kernel) (by decide +kernel)
set_option maxRecDepth 20000 in
theorem tY_X12_undo : (Jvm.Cond.code ({ cls := "YesterdayScaleModel", name := "undo", desc := "()I" } : Jvm.MethodName) prog_14_method_41_code (1 : Nat) (Option.some Jvm.ClassFile.FieldType.int)) ∈ gT := gT_in 1186 (by decide +kernel) (by decide +kernel)
set_option maxRecDepth 20000 in
theorem tM_L_60 : (Jvm.Cond.methodLink "YesterdayScaleLaw" (60 : Nat) ({ cls := "YesterdayScaleModel", name := "shown", desc := "(II)I" } : Jvm.MethodName)) ∈ gT := gT_in 1187 (by decide +kernel) (by decide +kernel)
set_option maxRecDepth 20000 in
theorem tI_X12_shown : (Jvm.Cond.instanceMethod ({ cls := "YesterdayScaleModel", name := "shown", desc := "(II)I" } : Jvm.MethodName)) ∈ gT := gT_in 1188 (by decide +kernel) (by decide +kernel)
set_option maxRecDepth 20000 in
theorem tSel_X12_X12_X12_shown : (Jvm.Cond.selects "YesterdayScaleModel" ({ cls := "YesterdayScaleModel", name := "shown", desc := "(II)I" } : Jvm.MethodName) ({ cls := "YesterdayScaleModel", name := "shown", desc := "(II)I" } : Jvm.MethodName)) ∈ gT := gT_in 1189 (by decide +kernel) (by decide +kernel)
set_option maxRecDepth 20000 in
theorem tY_X12_shown : (Jvm.Cond.code ({ cls := "YesterdayScaleModel", name := "shown", desc := "(II)I" } : Jvm.MethodName) prog_14_method_42_code (3 : Nat) (Option.some Jvm.ClassFile.FieldType.int)) ∈ gT := gT_in 1190 (by decide +kernel) (by decide +kernel)
set_option maxRecDepth 20000 in
theorem tM_X12_209 : (Jvm.Cond.methodLink "YesterdayScaleModel" (209 : Nat) ({ cls := "YesterdayScaleModel", name := "isDay", desc := "(I)Z" } : Jvm.MethodName)) ∈ gT := gT_in 1191 (by decide +kernel) (by decide +kernel)
set_option maxRecDepth 20000 in
theorem tI_X12_isDay : (Jvm.Cond.instanceMethod ({ cls := "YesterdayScaleModel", name := "isDay", desc := "(I)Z" } : Jvm.MethodName)) ∈ gT := gT_in 1193 (by decide +kernel) (by decide +kernel)
set_option maxRecDepth 20000 in
theorem tY_X12_isDay : (Jvm.Cond.code ({ cls := "YesterdayScaleModel", name := "isDay", desc := "(I)Z" } : Jvm.MethodName) prog_14_method_30_code (2 : Nat) (Option.some Jvm.ClassFile.FieldType.boolean)) ∈ gT := gT_in 1194 (by decide +kernel) (by decide +kernel)
set_option maxRecDepth 20000 in
theorem tL_X12_212 : (Jvm.Cond.constantLong "YesterdayScaleModel" (212 : Nat) (3 : Int64)) ∈ gT := gT_in 1195 (by decide +kernel) (by decide +kernel)
set_option maxRecDepth 20000 in
theorem tM_L_64 : (Jvm.Cond.methodLink "YesterdayScaleLaw" (64 : Nat) ({ cls := "YesterdayScaleModel", name := "heavy", desc := "(II)I" } : Jvm.MethodName)) ∈ gT := gT_in 1196 (by decide +kernel) (by decide +kernel)
set_option maxRecDepth 20000 in
theorem tI_X12_heavy : (Jvm.Cond.instanceMethod ({ cls := "YesterdayScaleModel", name := "heavy", desc := "(II)I" } : Jvm.MethodName)) ∈ gT := gT_in 1197 (by decide +kernel) (by decide +kernel)
set_option maxRecDepth 20000 in
theorem tSel_X12_X12_X12_heavy : (Jvm.Cond.selects "YesterdayScaleModel" ({ cls := "YesterdayScaleModel", name := "heavy", desc := "(II)I" } : Jvm.MethodName) ({ cls := "YesterdayScaleModel", name := "heavy", desc := "(II)I" } : Jvm.MethodName)) ∈ gT := gT_in 1198 (by decide +kernel) (by decide +kernel)
set_option maxRecDepth 20000 in
theorem tY_X12_heavy : (Jvm.Cond.code ({ cls := "YesterdayScaleModel", name := "heavy", desc := "(II)I" } : Jvm.MethodName) prog_14_method_43_code (3 : Nat) (Option.some Jvm.ClassFile.FieldType.int)) ∈ gT := gT_in 1199 (by decide +kernel) (by decide +kernel)
set_option maxRecDepth 20000 in
theorem tM_X12_214 : (Jvm.Cond.methodLink "YesterdayScaleModel" (214 : Nat) ({ cls := "YesterdayScaleModel", name := "isThing", desc := "(I)Z" } : Jvm.MethodName)) ∈ gT := gT_in 1200 (by decide +kernel) (by decide +kernel)
set_option maxRecDepth 20000 in
theorem tI_X12_isThing : (Jvm.Cond.instanceMethod ({ cls := "YesterdayScaleModel", name := "isThing", desc := "(I)Z" } : Jvm.MethodName)) ∈ gT := gT_in 1202 (by decide +kernel) (by decide +kernel)
set_option maxRecDepth 20000 in
theorem tY_X12_isThing : (Jvm.Cond.code ({ cls := "YesterdayScaleModel", name := "isThing", desc := "(I)Z" } : Jvm.MethodName) prog_14_method_29_code (2 : Nat) (Option.some Jvm.ClassFile.FieldType.boolean)) ∈ gT := gT_in 1203 (by decide +kernel) (by decide +kernel)
set_option maxRecDepth 20000 in
theorem tL_X12_217 : (Jvm.Cond.constantLong "YesterdayScaleModel" (217 : Nat) (-1 : Int64)) ∈ gT := gT_in 1204 (by decide +kernel) (by decide +kernel)
set_option maxRecDepth 20000 in
theorem tL_X12_219 : (Jvm.Cond.constantLong "YesterdayScaleModel" (219 : Nat) (99 : Int64)) ∈ gT := gT_in 1205 (by decide +kernel) (by decide +kernel)
set_option maxRecDepth 20000 in
theorem tM_L_68 : (Jvm.Cond.methodLink "YesterdayScaleLaw" (68 : Nat) ({ cls := "YesterdayScaleModel", name := "next", desc := "(I)I" } : Jvm.MethodName)) ∈ gT := gT_in 1206 (by decide +kernel) (by decide +kernel)
set_option maxRecDepth 20000 in
theorem tI_X12_next : (Jvm.Cond.instanceMethod ({ cls := "YesterdayScaleModel", name := "next", desc := "(I)I" } : Jvm.MethodName)) ∈ gT := gT_in 1207 (by decide +kernel) (by decide +kernel)
set_option maxRecDepth 20000 in
theorem tSel_X12_X12_X12_next : (Jvm.Cond.selects "YesterdayScaleModel" ({ cls := "YesterdayScaleModel", name := "next", desc := "(I)I" } : Jvm.MethodName) ({ cls := "YesterdayScaleModel", name := "next", desc := "(I)I" } : Jvm.MethodName)) ∈ gT := gT_in 1208 (by decide +kernel) (by decide +kernel)
set_option maxRecDepth 20000 in
theorem tY_X12_next : (Jvm.Cond.code ({ cls := "YesterdayScaleModel", name := "next", desc := "(I)I" } : Jvm.MethodName) prog_14_method_44_code (2 : Nat) (Option.some Jvm.ClassFile.FieldType.int)) ∈ gT := gT_in 1209 (by decide +kernel) (by decide +kernel)
set_option maxRecDepth 20000 in
theorem tM_L_72 : (Jvm.Cond.methodLink "YesterdayScaleLaw" (72 : Nat) ({ cls := "YesterdayScaleModel", name := "fits", desc := "(III)I" } : Jvm.MethodName)) ∈ gT := gT_in 1210 (by decide +kernel) (by decide +kernel)
set_option maxRecDepth 20000 in
theorem tI_X12_fits : (Jvm.Cond.instanceMethod ({ cls := "YesterdayScaleModel", name := "fits", desc := "(III)I" } : Jvm.MethodName)) ∈ gT := gT_in 1211 (by decide +kernel) (by decide +kernel)
set_option maxRecDepth 20000 in
theorem tSel_X12_X12_X12_fits : (Jvm.Cond.selects "YesterdayScaleModel" ({ cls := "YesterdayScaleModel", name := "fits", desc := "(III)I" } : Jvm.MethodName) ({ cls := "YesterdayScaleModel", name := "fits", desc := "(III)I" } : Jvm.MethodName)) ∈ gT := gT_in 1212 (by decide +kernel) (by decide +kernel)
set_option maxRecDepth 20000 in
theorem tY_X12_fits : (Jvm.Cond.code ({ cls := "YesterdayScaleModel", name := "fits", desc := "(III)I" } : Jvm.MethodName) prog_14_method_47_code (7 : Nat) (Option.some Jvm.ClassFile.FieldType.int)) ∈ gT := gT_in 1213 (by decide +kernel) (by decide +kernel)
set_option maxRecDepth 20000 in
theorem tM_X12_221 : (Jvm.Cond.methodLink "YesterdayScaleModel" (221 : Nat) ({ cls := "YesterdayScaleModel", name := "barred", desc := "(IZ)I" } : Jvm.MethodName)) ∈ gT := gT_in 1214 (by decide +kernel) (by decide +kernel)
set_option maxRecDepth 20000 in
theorem tI_X12_barred : (Jvm.Cond.instanceMethod ({ cls := "YesterdayScaleModel", name := "barred", desc := "(IZ)I" } : Jvm.MethodName)) ∈ gT := gT_in 1216 (by decide +kernel) (by decide +kernel)
set_option maxRecDepth 20000 in
theorem tY_X12_barred : (Jvm.Cond.code ({ cls := "YesterdayScaleModel", name := "barred", desc := "(IZ)I" } : Jvm.MethodName) prog_14_method_45_code (4 : Nat) (Option.some Jvm.ClassFile.FieldType.int)) ∈ gT := gT_in 1217 (by decide +kernel) (by decide +kernel)
set_option maxRecDepth 20000 in
theorem tM_X12_225 : (Jvm.Cond.methodLink "YesterdayScaleModel" (225 : Nat) ({ cls := "YesterdayScaleModel", name := "worlds", desc := "()I" } : Jvm.MethodName)) ∈ gT := gT_in 1218 (by decide +kernel) (by decide +kernel)
set_option maxRecDepth 20000 in
theorem tI_X12_worlds : (Jvm.Cond.instanceMethod ({ cls := "YesterdayScaleModel", name := "worlds", desc := "()I" } : Jvm.MethodName)) ∈ gT := gT_in 1220 (by decide +kernel) (by decide +kernel)
set_option maxRecDepth 20000 in
theorem tY_X12_worlds : (Jvm.Cond.code ({ cls := "YesterdayScaleModel", name := "worlds", desc := "()I" } : Jvm.MethodName) prog_14_method_35_code (1 : Nat) (Option.some Jvm.ClassFile.FieldType.int)) ∈ gT := gT_in 1221 (by decide +kernel) (by decide +kernel)
set_option maxRecDepth 20000 in
theorem tM_X12_228 : (Jvm.Cond.methodLink "YesterdayScaleModel" (228 : Nat) ({ cls := "YesterdayScaleModel", name := "layWorld", desc := "(I)V" } : Jvm.MethodName)) ∈ gT := gT_in 1222 (by decide +kernel) (by decide +kernel)
set_option maxRecDepth 20000 in
theorem tI_X12_layWorld : (Jvm.Cond.instanceMethod ({ cls := "YesterdayScaleModel", name := "layWorld", desc := "(I)V" } : Jvm.MethodName)) ∈ gT := gT_in 1224 (by decide +kernel) (by decide +kernel)
set_option maxRecDepth 20000 in
theorem tY_X12_layWorld : (Jvm.Cond.code ({ cls := "YesterdayScaleModel", name := "layWorld", desc := "(I)V" } : Jvm.MethodName) prog_14_method_34_code (3 : Nat) (Option.none : Option Jvm.ClassFile.FieldType)) ∈ gT := gT_in 1225 (by decide +kernel) (by decide +kernel)
set_option maxRecDepth 20000 in
theorem tM_X12_231 : (Jvm.Cond.methodLink "YesterdayScaleModel" (231 : Nat) ({ cls := "YesterdayScaleModel", name := "wrongDays", desc := "(I)I" } : Jvm.MethodName)) ∈ gT := gT_in 1226 (by decide +kernel) (by decide +kernel)
set_option maxRecDepth 20000 in
theorem tI_X12_wrongDays : (Jvm.Cond.instanceMethod ({ cls := "YesterdayScaleModel", name := "wrongDays", desc := "(I)I" } : Jvm.MethodName)) ∈ gT := gT_in 1228 (by decide +kernel) (by decide +kernel)
set_option maxRecDepth 20000 in
theorem tY_X12_wrongDays : (Jvm.Cond.code ({ cls := "YesterdayScaleModel", name := "wrongDays", desc := "(I)I" } : Jvm.MethodName) prog_14_method_46_code (5 : Nat) (Option.some Jvm.ClassFile.FieldType.int)) ∈ gT := gT_in 1229 (by decide +kernel) (by decide +kernel)
set_option maxRecDepth 20000 in
theorem tM_L_76 : (Jvm.Cond.methodLink "YesterdayScaleLaw" (76 : Nat) ({ cls := "YesterdayScaleModel", name := "sure", desc := "(II)I" } : Jvm.MethodName)) ∈ gT := gT_in 1230 (by decide +kernel) (by decide +kernel)
set_option maxRecDepth 20000 in
theorem tI_X12_sure : (Jvm.Cond.instanceMethod ({ cls := "YesterdayScaleModel", name := "sure", desc := "(II)I" } : Jvm.MethodName)) ∈ gT := gT_in 1231 (by decide +kernel) (by decide +kernel)
set_option maxRecDepth 20000 in
theorem tSel_X12_X12_X12_sure : (Jvm.Cond.selects "YesterdayScaleModel" ({ cls := "YesterdayScaleModel", name := "sure", desc := "(II)I" } : Jvm.MethodName) ({ cls := "YesterdayScaleModel", name := "sure", desc := "(II)I" } : Jvm.MethodName)) ∈ gT := gT_in 1232 (by decide +kernel) (by decide +kernel)
set_option maxRecDepth 20000 in
theorem tY_X12_sure : (Jvm.Cond.code ({ cls := "YesterdayScaleModel", name := "sure", desc := "(II)I" } : Jvm.MethodName) prog_14_method_48_code (6 : Nat) (Option.some Jvm.ClassFile.FieldType.int)) ∈ gT := gT_in 1233 (by decide +kernel) (by decide +kernel)
set_option maxRecDepth 20000 in
theorem tM_X12_234 : (Jvm.Cond.methodLink "YesterdayScaleModel" (234 : Nat) ({ cls := "YesterdayScaleModel", name := "oneOf", desc := "(I)I" } : Jvm.MethodName)) ∈ gT := gT_in 1234 (by decide +kernel) (by decide +kernel)
set_option maxRecDepth 20000 in
theorem tS_X12_oneOf : (Jvm.Cond.static ({ cls := "YesterdayScaleModel", name := "oneOf", desc := "(I)I" } : Jvm.MethodName)) ∈ gT := gT_in 1235 (by decide +kernel) (by decide +kernel)
set_option maxRecDepth 20000 in
theorem tY_X12_oneOf : (Jvm.Cond.code ({ cls := "YesterdayScaleModel", name := "oneOf", desc := "(I)I" } : Jvm.MethodName) prog_14_method_49_code (3 : Nat) (Option.some Jvm.ClassFile.FieldType.int)) ∈ gT := gT_in 1236 (by decide +kernel) (by decide +kernel)
set_option maxRecDepth 20000 in
theorem tM_L_80 : (Jvm.Cond.methodLink "YesterdayScaleLaw" (80 : Nat) ({ cls := "YesterdayScaleModel", name := "gap", desc := "(II)I" } : Jvm.MethodName)) ∈ gT := gT_in 1237 (by decide +kernel) (by decide +kernel)
set_option maxRecDepth 20000 in
theorem tI_X12_gap : (Jvm.Cond.instanceMethod ({ cls := "YesterdayScaleModel", name := "gap", desc := "(II)I" } : Jvm.MethodName)) ∈ gT := gT_in 1238 (by decide +kernel) (by decide +kernel)
set_option maxRecDepth 20000 in
theorem tSel_X12_X12_X12_gap : (Jvm.Cond.selects "YesterdayScaleModel" ({ cls := "YesterdayScaleModel", name := "gap", desc := "(II)I" } : Jvm.MethodName) ({ cls := "YesterdayScaleModel", name := "gap", desc := "(II)I" } : Jvm.MethodName)) ∈ gT := gT_in 1239 (by decide +kernel) (by decide +kernel)
set_option maxRecDepth 20000 in
theorem tY_X12_gap : (Jvm.Cond.code ({ cls := "YesterdayScaleModel", name := "gap", desc := "(II)I" } : Jvm.MethodName) prog_14_method_50_code (7 : Nat) (Option.some Jvm.ClassFile.FieldType.int)) ∈ gT := gT_in 1240 (by decide +kernel) (by decide +kernel)
set_option maxRecDepth 20000 in
theorem tM_L_84 : (Jvm.Cond.methodLink "YesterdayScaleLaw" (84 : Nat) ({ cls := "YesterdayScaleModel", name := "wrong", desc := "(II)I" } : Jvm.MethodName)) ∈ gT := gT_in 1241 (by decide +kernel) (by decide +kernel)
set_option maxRecDepth 20000 in
theorem tI_X12_wrong : (Jvm.Cond.instanceMethod ({ cls := "YesterdayScaleModel", name := "wrong", desc := "(II)I" } : Jvm.MethodName)) ∈ gT := gT_in 1242 (by decide +kernel) (by decide +kernel)
set_option maxRecDepth 20000 in
theorem tSel_X12_X12_X12_wrong : (Jvm.Cond.selects "YesterdayScaleModel" ({ cls := "YesterdayScaleModel", name := "wrong", desc := "(II)I" } : Jvm.MethodName) ({ cls := "YesterdayScaleModel", name := "wrong", desc := "(II)I" } : Jvm.MethodName)) ∈ gT := gT_in 1243 (by decide +kernel) (by decide +kernel)
set_option maxRecDepth 20000 in
theorem tY_X12_wrong : (Jvm.Cond.code ({ cls := "YesterdayScaleModel", name := "wrong", desc := "(II)I" } : Jvm.MethodName) prog_14_method_52_code (8 : Nat) (Option.some Jvm.ClassFile.FieldType.int)) ∈ gT := gT_in 1244 (by decide +kernel) (by decide +kernel)
set_option maxRecDepth 20000 in
theorem tM_X12_237 : (Jvm.Cond.methodLink "YesterdayScaleModel" (237 : Nat) ({ cls := "YesterdayScaleModel", name := "bits", desc := "(I)I" } : Jvm.MethodName)) ∈ gT := gT_in 1245 (by decide +kernel) (by decide +kernel)
set_option maxRecDepth 20000 in
theorem tS_X12_bits : (Jvm.Cond.static ({ cls := "YesterdayScaleModel", name := "bits", desc := "(I)I" } : Jvm.MethodName)) ∈ gT := gT_in 1246 (by decide +kernel) (by decide +kernel)
set_option maxRecDepth 20000 in
theorem tY_X12_bits : (Jvm.Cond.code ({ cls := "YesterdayScaleModel", name := "bits", desc := "(I)I" } : Jvm.MethodName) prog_14_method_51_code (3 : Nat) (Option.some Jvm.ClassFile.FieldType.int)) ∈ gT := gT_in 1247 (by decide +kernel) (by decide +kernel)
set_option maxRecDepth 20000 in
theorem tM_L_88 : (Jvm.Cond.methodLink "YesterdayScaleLaw" (88 : Nat) ({ cls := "YesterdayScaleModel", name := "soon", desc := "(I)I" } : Jvm.MethodName)) ∈ gT := gT_in 1248 (by decide +kernel) (by decide +kernel)
set_option maxRecDepth 20000 in
theorem tI_X12_soon : (Jvm.Cond.instanceMethod ({ cls := "YesterdayScaleModel", name := "soon", desc := "(I)I" } : Jvm.MethodName)) ∈ gT := gT_in 1249 (by decide +kernel) (by decide +kernel)
set_option maxRecDepth 20000 in
theorem tSel_X12_X12_X12_soon : (Jvm.Cond.selects "YesterdayScaleModel" ({ cls := "YesterdayScaleModel", name := "soon", desc := "(I)I" } : Jvm.MethodName) ({ cls := "YesterdayScaleModel", name := "soon", desc := "(I)I" } : Jvm.MethodName)) ∈ gT := gT_in 1250 (by decide +kernel) (by decide +kernel)
set_option maxRecDepth 20000 in
theorem tY_X12_soon : (Jvm.Cond.code ({ cls := "YesterdayScaleModel", name := "soon", desc := "(I)I" } : Jvm.MethodName) prog_14_method_57_code (2 : Nat) (Option.some Jvm.ClassFile.FieldType.int)) ∈ gT := gT_in 1251 (by decide +kernel) (by decide +kernel)
set_option maxRecDepth 20000 in
theorem tM_X12_261 : (Jvm.Cond.methodLink "YesterdayScaleModel" (261 : Nat) ({ cls := "YesterdayScaleModel", name := "laySoon", desc := "()V" } : Jvm.MethodName)) ∈ gT := gT_in 1252 (by decide +kernel) (by decide +kernel)
set_option maxRecDepth 20000 in
theorem tI_X12_laySoon : (Jvm.Cond.instanceMethod ({ cls := "YesterdayScaleModel", name := "laySoon", desc := "()V" } : Jvm.MethodName)) ∈ gT := gT_in 1254 (by decide +kernel) (by decide +kernel)
set_option maxRecDepth 20000 in
theorem tY_X12_laySoon : (Jvm.Cond.code ({ cls := "YesterdayScaleModel", name := "laySoon", desc := "()V" } : Jvm.MethodName) prog_14_method_56_code (4 : Nat) (Option.none : Option Jvm.ClassFile.FieldType)) ∈ gT := gT_in 1255 (by decide +kernel) (by decide +kernel)
set_option maxRecDepth 20000 in
theorem tM_X12_249 : (Jvm.Cond.methodLink "YesterdayScaleModel" (249 : Nat) ({ cls := "YesterdayScaleModel", name := "layLeft", desc := "()V" } : Jvm.MethodName)) ∈ gT := gT_in 1256 (by decide +kernel) (by decide +kernel)
set_option maxRecDepth 20000 in
theorem tI_X12_layLeft : (Jvm.Cond.instanceMethod ({ cls := "YesterdayScaleModel", name := "layLeft", desc := "()V" } : Jvm.MethodName)) ∈ gT := gT_in 1258 (by decide +kernel) (by decide +kernel)
set_option maxRecDepth 20000 in
theorem tY_X12_layLeft : (Jvm.Cond.code ({ cls := "YesterdayScaleModel", name := "layLeft", desc := "()V" } : Jvm.MethodName) prog_14_method_54_code (4 : Nat) (Option.none : Option Jvm.ClassFile.FieldType)) ∈ gT := gT_in 1259 (by decide +kernel) (by decide +kernel)
set_option maxRecDepth 20000 in
theorem tM_X12_240 : (Jvm.Cond.methodLink "YesterdayScaleModel" (240 : Nat) ({ cls := "YesterdayScaleModel", name := "layTrulyShown", desc := "(I)V" } : Jvm.MethodName)) ∈ gT := gT_in 1260 (by decide +kernel) (by decide +kernel)
set_option maxRecDepth 20000 in
theorem tI_X12_layTrulyShown : (Jvm.Cond.instanceMethod ({ cls := "YesterdayScaleModel", name := "layTrulyShown", desc := "(I)V" } : Jvm.MethodName)) ∈ gT := gT_in 1262 (by decide +kernel) (by decide +kernel)
set_option maxRecDepth 20000 in
theorem tY_X12_layTrulyShown : (Jvm.Cond.code ({ cls := "YesterdayScaleModel", name := "layTrulyShown", desc := "(I)V" } : Jvm.MethodName) prog_14_method_53_code (3 : Nat) (Option.none : Option Jvm.ClassFile.FieldType)) ∈ gT := gT_in 1263 (by decide +kernel) (by decide +kernel)
set_option maxRecDepth 20000 in
theorem tM_X12_252 : (Jvm.Cond.methodLink "YesterdayScaleModel" (252 : Nat) ({ cls := "YesterdayScaleModel", name := "isOne", desc := "(I)Z" } : Jvm.MethodName)) ∈ gT := gT_in 1264 (by decide +kernel) (by decide +kernel)
set_option maxRecDepth 20000 in
theorem tI_X12_isOne : (Jvm.Cond.instanceMethod ({ cls := "YesterdayScaleModel", name := "isOne", desc := "(I)Z" } : Jvm.MethodName)) ∈ gT := gT_in 1266 (by decide +kernel) (by decide +kernel)
set_option maxRecDepth 20000 in
theorem tY_X12_isOne : (Jvm.Cond.code ({ cls := "YesterdayScaleModel", name := "isOne", desc := "(I)Z" } : Jvm.MethodName) prog_14_method_55_code (7 : Nat) (Option.some Jvm.ClassFile.FieldType.boolean)) ∈ gT := gT_in 1267 (by decide +kernel) (by decide +kernel)
set_option maxRecDepth 20000 in
theorem tM_L_92 : (Jvm.Cond.methodLink "YesterdayScaleLaw" (92 : Nat) ({ cls := "YesterdayScaleModel", name := "laws", desc := "(I)I" } : Jvm.MethodName)) ∈ gT := gT_in 1268 (by decide +kernel) (by decide +kernel)
set_option maxRecDepth 20000 in
theorem tI_X12_laws : (Jvm.Cond.instanceMethod ({ cls := "YesterdayScaleModel", name := "laws", desc := "(I)I" } : Jvm.MethodName)) ∈ gT := gT_in 1269 (by decide +kernel) (by decide +kernel)
set_option maxRecDepth 20000 in
theorem tSel_X12_X12_X12_laws : (Jvm.Cond.selects "YesterdayScaleModel" ({ cls := "YesterdayScaleModel", name := "laws", desc := "(I)I" } : Jvm.MethodName) ({ cls := "YesterdayScaleModel", name := "laws", desc := "(I)I" } : Jvm.MethodName)) ∈ gT := gT_in 1270 (by decide +kernel) (by decide +kernel)
set_option maxRecDepth 20000 in
theorem tY_X12_laws : (Jvm.Cond.code ({ cls := "YesterdayScaleModel", name := "laws", desc := "(I)I" } : Jvm.MethodName) prog_14_method_58_code (5 : Nat) (Option.some Jvm.ClassFile.FieldType.int)) ∈ gT := gT_in 1271 (by decide +kernel) (by decide +kernel)
set_option maxRecDepth 20000 in
theorem tM_L_96 : (Jvm.Cond.methodLink "YesterdayScaleLaw" (96 : Nat) ({ cls := "YesterdayScaleModel", name := "error", desc := "(I)I" } : Jvm.MethodName)) ∈ gT := gT_in 1272 (by decide +kernel) (by decide +kernel)
set_option maxRecDepth 20000 in
theorem tI_X12_error : (Jvm.Cond.instanceMethod ({ cls := "YesterdayScaleModel", name := "error", desc := "(I)I" } : Jvm.MethodName)) ∈ gT := gT_in 1273 (by decide +kernel) (by decide +kernel)
set_option maxRecDepth 20000 in
theorem tSel_X12_X12_X12_error : (Jvm.Cond.selects "YesterdayScaleModel" ({ cls := "YesterdayScaleModel", name := "error", desc := "(I)I" } : Jvm.MethodName) ({ cls := "YesterdayScaleModel", name := "error", desc := "(I)I" } : Jvm.MethodName)) ∈ gT := gT_in 1274 (by decide +kernel) (by decide +kernel)
set_option maxRecDepth 20000 in
theorem tY_X12_error : (Jvm.Cond.code ({ cls := "YesterdayScaleModel", name := "error", desc := "(I)I" } : Jvm.MethodName) prog_14_method_59_code (4 : Nat) (Option.some Jvm.ClassFile.FieldType.int)) ∈ gT := gT_in 1275 (by decide +kernel) (by decide +kernel)
set_option maxRecDepth 20000 in
theorem tM_L_100 : (Jvm.Cond.methodLink "YesterdayScaleLaw" (100 : Nat) ({ cls := "YesterdayScaleModel", name := "sold", desc := "(II)I" } : Jvm.MethodName)) ∈ gT := gT_in 1276 (by decide +kernel) (by decide +kernel)
set_option maxRecDepth 20000 in
theorem tI_X12_sold : (Jvm.Cond.instanceMethod ({ cls := "YesterdayScaleModel", name := "sold", desc := "(II)I" } : Jvm.MethodName)) ∈ gT := gT_in 1277 (by decide +kernel) (by decide +kernel)
set_option maxRecDepth 20000 in
theorem tSel_X12_X12_X12_sold : (Jvm.Cond.selects "YesterdayScaleModel" ({ cls := "YesterdayScaleModel", name := "sold", desc := "(II)I" } : Jvm.MethodName) ({ cls := "YesterdayScaleModel", name := "sold", desc := "(II)I" } : Jvm.MethodName)) ∈ gT := gT_in 1278 (by decide +kernel) (by decide +kernel)
set_option maxRecDepth 20000 in
theorem tY_X12_sold : (Jvm.Cond.code ({ cls := "YesterdayScaleModel", name := "sold", desc := "(II)I" } : Jvm.MethodName) prog_14_method_60_code (3 : Nat) (Option.some Jvm.ClassFile.FieldType.int)) ∈ gT := gT_in 1279 (by decide +kernel) (by decide +kernel)
set_option maxRecDepth 20000 in
theorem tM_L_104 : (Jvm.Cond.methodLink "YesterdayScaleLaw" (104 : Nat) ({ cls := "YesterdayScaleModel", name := "image", desc := "(I)I" } : Jvm.MethodName)) ∈ gT := gT_in 1280 (by decide +kernel) (by decide +kernel)
set_option maxRecDepth 20000 in
theorem tI_X12_image : (Jvm.Cond.instanceMethod ({ cls := "YesterdayScaleModel", name := "image", desc := "(I)I" } : Jvm.MethodName)) ∈ gT := gT_in 1281 (by decide +kernel) (by decide +kernel)
set_option maxRecDepth 20000 in
theorem tSel_X12_X12_X12_image : (Jvm.Cond.selects "YesterdayScaleModel" ({ cls := "YesterdayScaleModel", name := "image", desc := "(I)I" } : Jvm.MethodName) ({ cls := "YesterdayScaleModel", name := "image", desc := "(I)I" } : Jvm.MethodName)) ∈ gT := gT_in 1282 (by decide +kernel) (by decide +kernel)
set_option maxRecDepth 20000 in
theorem tY_X12_image : (Jvm.Cond.code ({ cls := "YesterdayScaleModel", name := "image", desc := "(I)I" } : Jvm.MethodName) prog_14_method_61_code (3 : Nat) (Option.some Jvm.ClassFile.FieldType.int)) ∈ gT := gT_in 1283 (by decide +kernel) (by decide +kernel)
set_option maxRecDepth 20000 in
theorem tM_L_108 : (Jvm.Cond.methodLink "YesterdayScaleLaw" (108 : Nat) ({ cls := "YesterdayScaleModel", name := "restore", desc := "(I)I" } : Jvm.MethodName)) ∈ gT := gT_in 1284 (by decide +kernel) (by decide +kernel)
set_option maxRecDepth 20000 in
theorem tI_X12_restore : (Jvm.Cond.instanceMethod ({ cls := "YesterdayScaleModel", name := "restore", desc := "(I)I" } : Jvm.MethodName)) ∈ gT := gT_in 1285 (by decide +kernel) (by decide +kernel)
set_option maxRecDepth 20000 in
theorem tSel_X12_X12_X12_restore : (Jvm.Cond.selects "YesterdayScaleModel" ({ cls := "YesterdayScaleModel", name := "restore", desc := "(I)I" } : Jvm.MethodName) ({ cls := "YesterdayScaleModel", name := "restore", desc := "(I)I" } : Jvm.MethodName)) ∈ gT := gT_in 1286 (by decide +kernel) (by decide +kernel)
set_option maxRecDepth 20000 in
theorem tY_X12_restore : (Jvm.Cond.code ({ cls := "YesterdayScaleModel", name := "restore", desc := "(I)I" } : Jvm.MethodName) prog_14_method_62_code (3 : Nat) (Option.some Jvm.ClassFile.FieldType.int)) ∈ gT := gT_in 1287 (by decide +kernel) (by decide +kernel)
set_option maxRecDepth 20000 in
theorem tM_L_112 : (Jvm.Cond.methodLink "YesterdayScaleLaw" (112 : Nat) ({ cls := "YesterdayScaleModel", name := "kind", desc := "(I)I" } : Jvm.MethodName)) ∈ gT := gT_in 1288 (by decide +kernel) (by decide +kernel)
set_option maxRecDepth 20000 in
theorem tI_X12_kind : (Jvm.Cond.instanceMethod ({ cls := "YesterdayScaleModel", name := "kind", desc := "(I)I" } : Jvm.MethodName)) ∈ gT := gT_in 1289 (by decide +kernel) (by decide +kernel)
set_option maxRecDepth 20000 in
theorem tSel_X12_X12_X12_kind : (Jvm.Cond.selects "YesterdayScaleModel" ({ cls := "YesterdayScaleModel", name := "kind", desc := "(I)I" } : Jvm.MethodName) ({ cls := "YesterdayScaleModel", name := "kind", desc := "(I)I" } : Jvm.MethodName)) ∈ gT := gT_in 1290 (by decide +kernel) (by decide +kernel)
set_option maxRecDepth 20000 in
theorem tY_X12_kind : (Jvm.Cond.code ({ cls := "YesterdayScaleModel", name := "kind", desc := "(I)I" } : Jvm.MethodName) prog_14_method_64_code (2 : Nat) (Option.some Jvm.ClassFile.FieldType.int)) ∈ gT := gT_in 1291 (by decide +kernel) (by decide +kernel)
set_option maxRecDepth 20000 in
theorem tM_L_116 : (Jvm.Cond.methodLink "YesterdayScaleLaw" (116 : Nat) ({ cls := "YesterdayScaleModel", name := "as", desc := "(II)I" } : Jvm.MethodName)) ∈ gT := gT_in 1292 (by decide +kernel) (by decide +kernel)
set_option maxRecDepth 20000 in
theorem tI_X12_as : (Jvm.Cond.instanceMethod ({ cls := "YesterdayScaleModel", name := "as", desc := "(II)I" } : Jvm.MethodName)) ∈ gT := gT_in 1293 (by decide +kernel) (by decide +kernel)
set_option maxRecDepth 20000 in
theorem tSel_X12_X12_X12_as : (Jvm.Cond.selects "YesterdayScaleModel" ({ cls := "YesterdayScaleModel", name := "as", desc := "(II)I" } : Jvm.MethodName) ({ cls := "YesterdayScaleModel", name := "as", desc := "(II)I" } : Jvm.MethodName)) ∈ gT := gT_in 1294 (by decide +kernel) (by decide +kernel)
set_option maxRecDepth 20000 in
theorem tY_X12_as : (Jvm.Cond.code ({ cls := "YesterdayScaleModel", name := "as", desc := "(II)I" } : Jvm.MethodName) prog_14_method_65_code (3 : Nat) (Option.some Jvm.ClassFile.FieldType.int)) ∈ gT := gT_in 1295 (by decide +kernel) (by decide +kernel)
set_option maxRecDepth 20000 in
theorem tL_X12_264 : (Jvm.Cond.constantLong "YesterdayScaleModel" (264 : Nat) (5 : Int64)) ∈ gT := gT_in 1296 (by decide +kernel) (by decide +kernel)
set_option maxRecDepth 20000 in
theorem tM_X12_266 : (Jvm.Cond.methodLink "YesterdayScaleModel" (266 : Nat) ({ cls := "YesterdayScaleModel", name := "isOf", desc := "(II)Z" } : Jvm.MethodName)) ∈ gT := gT_in 1297 (by decide +kernel) (by decide +kernel)
set_option maxRecDepth 20000 in
theorem tS_X12_isOf : (Jvm.Cond.static ({ cls := "YesterdayScaleModel", name := "isOf", desc := "(II)Z" } : Jvm.MethodName)) ∈ gT := gT_in 1298 (by decide +kernel) (by decide +kernel)
set_option maxRecDepth 20000 in
theorem tY_X12_isOf : (Jvm.Cond.code ({ cls := "YesterdayScaleModel", name := "isOf", desc := "(II)Z" } : Jvm.MethodName) prog_14_method_63_code (2 : Nat) (Option.some Jvm.ClassFile.FieldType.boolean)) ∈ gT := gT_in 1299 (by decide +kernel) (by decide +kernel)
set_option maxRecDepth 20000 in
theorem tM_L_120 : (Jvm.Cond.methodLink "YesterdayScaleLaw" (120 : Nat) ({ cls := "YesterdayScaleModel", name := "ask", desc := "(II)I" } : Jvm.MethodName)) ∈ gT := gT_in 1300 (by decide +kernel) (by decide +kernel)
set_option maxRecDepth 20000 in
theorem tI_X12_ask : (Jvm.Cond.instanceMethod ({ cls := "YesterdayScaleModel", name := "ask", desc := "(II)I" } : Jvm.MethodName)) ∈ gT := gT_in 1301 (by decide +kernel) (by decide +kernel)
set_option maxRecDepth 20000 in
theorem tSel_X12_X12_X12_ask : (Jvm.Cond.selects "YesterdayScaleModel" ({ cls := "YesterdayScaleModel", name := "ask", desc := "(II)I" } : Jvm.MethodName) ({ cls := "YesterdayScaleModel", name := "ask", desc := "(II)I" } : Jvm.MethodName)) ∈ gT := gT_in 1302 (by decide +kernel) (by decide +kernel)
set_option maxRecDepth 20000 in
theorem tY_X12_ask : (Jvm.Cond.code ({ cls := "YesterdayScaleModel", name := "ask", desc := "(II)I" } : Jvm.MethodName) prog_14_method_71_code (3 : Nat) (Option.some Jvm.ClassFile.FieldType.int)) ∈ gT := gT_in 1303 (by decide +kernel) (by decide +kernel)
set_option maxRecDepth 20000 in
theorem tM_X12_285 : (Jvm.Cond.methodLink "YesterdayScaleModel" (285 : Nat) ({ cls := "YesterdayScaleModel", name := "sizeOf", desc := "(I)I" } : Jvm.MethodName)) ∈ gT := gT_in 1304 (by decide +kernel) (by decide +kernel)
set_option maxRecDepth 20000 in
theorem tI_X12_sizeOf : (Jvm.Cond.instanceMethod ({ cls := "YesterdayScaleModel", name := "sizeOf", desc := "(I)I" } : Jvm.MethodName)) ∈ gT := gT_in 1306 (by decide +kernel) (by decide +kernel)
set_option maxRecDepth 20000 in
theorem tY_X12_sizeOf : (Jvm.Cond.code ({ cls := "YesterdayScaleModel", name := "sizeOf", desc := "(I)I" } : Jvm.MethodName) prog_14_method_70_code (4 : Nat) (Option.some Jvm.ClassFile.FieldType.int)) ∈ gT := gT_in 1307 (by decide +kernel) (by decide +kernel)
set_option maxRecDepth 20000 in
theorem tM_X12_279 : (Jvm.Cond.methodLink "YesterdayScaleModel" (279 : Nat) ({ cls := "YesterdayScaleModel", name := "stoneSize", desc := "(I)I" } : Jvm.MethodName)) ∈ gT := gT_in 1308 (by decide +kernel) (by decide +kernel)
set_option maxRecDepth 20000 in
theorem tI_X12_stoneSize : (Jvm.Cond.instanceMethod ({ cls := "YesterdayScaleModel", name := "stoneSize", desc := "(I)I" } : Jvm.MethodName)) ∈ gT := gT_in 1310 (by decide +kernel) (by decide +kernel)
set_option maxRecDepth 20000 in
theorem tY_X12_stoneSize : (Jvm.Cond.code ({ cls := "YesterdayScaleModel", name := "stoneSize", desc := "(I)I" } : Jvm.MethodName) prog_14_method_68_code (3 : Nat) (Option.some Jvm.ClassFile.FieldType.int)) ∈ gT := gT_in 1311 (by decide +kernel) (by decide +kernel)
set_option maxRecDepth 20000 in
theorem tM_X12_273 : (Jvm.Cond.methodLink "YesterdayScaleModel" (273 : Nat) ({ cls := "YesterdayScaleModel", name := "began", desc := "(I)V" } : Jvm.MethodName)) ∈ gT := gT_in 1312 (by decide +kernel) (by decide +kernel)
set_option maxRecDepth 20000 in
theorem tI_X12_began : (Jvm.Cond.instanceMethod ({ cls := "YesterdayScaleModel", name := "began", desc := "(I)V" } : Jvm.MethodName)) ∈ gT := gT_in 1314 (by decide +kernel) (by decide +kernel)
set_option maxRecDepth 20000 in
theorem tY_X12_began : (Jvm.Cond.code ({ cls := "YesterdayScaleModel", name := "began", desc := "(I)V" } : Jvm.MethodName) prog_14_method_66_code (2 : Nat) (Option.none : Option Jvm.ClassFile.FieldType)) ∈ gT := gT_in 1315 (by decide +kernel) (by decide +kernel)
set_option maxRecDepth 20000 in
theorem tM_X12_276 : (Jvm.Cond.methodLink "YesterdayScaleModel" (276 : Nat) ({ cls := "YesterdayScaleModel", name := "plainSize", desc := "(I)I" } : Jvm.MethodName)) ∈ gT := gT_in 1316 (by decide +kernel) (by decide +kernel)
set_option maxRecDepth 20000 in
theorem tI_X12_plainSize : (Jvm.Cond.instanceMethod ({ cls := "YesterdayScaleModel", name := "plainSize", desc := "(I)I" } : Jvm.MethodName)) ∈ gT := gT_in 1318 (by decide +kernel) (by decide +kernel)
set_option maxRecDepth 20000 in
theorem tY_X12_plainSize : (Jvm.Cond.code ({ cls := "YesterdayScaleModel", name := "plainSize", desc := "(I)I" } : Jvm.MethodName) prog_14_method_67_code (2 : Nat) (Option.some Jvm.ClassFile.FieldType.int)) ∈ gT := gT_in 1319 (by decide +kernel) (by decide +kernel)
set_option maxRecDepth 20000 in
theorem tM_X12_282 : (Jvm.Cond.methodLink "YesterdayScaleModel" (282 : Nat) ({ cls := "YesterdayScaleModel", name := "markOf", desc := "(I)I" } : Jvm.MethodName)) ∈ gT := gT_in 1320 (by decide +kernel) (by decide +kernel)
set_option maxRecDepth 20000 in
theorem tI_X12_markOf : (Jvm.Cond.instanceMethod ({ cls := "YesterdayScaleModel", name := "markOf", desc := "(I)I" } : Jvm.MethodName)) ∈ gT := gT_in 1322 (by decide +kernel) (by decide +kernel)
set_option maxRecDepth 20000 in
theorem tY_X12_markOf : (Jvm.Cond.code ({ cls := "YesterdayScaleModel", name := "markOf", desc := "(I)I" } : Jvm.MethodName) prog_14_method_69_code (4 : Nat) (Option.some Jvm.ClassFile.FieldType.int)) ∈ gT := gT_in 1323 (by decide +kernel) (by decide +kernel)
set_option maxRecDepth 20000 in
theorem tM_L_124 : (Jvm.Cond.methodLink "YesterdayScaleLaw" (124 : Nat) ({ cls := "YesterdayScaleModel", name := "trace", desc := "(I)I" } : Jvm.MethodName)) ∈ gT := gT_in 1324 (by decide +kernel) (by decide +kernel)
set_option maxRecDepth 20000 in
theorem tI_X12_trace : (Jvm.Cond.instanceMethod ({ cls := "YesterdayScaleModel", name := "trace", desc := "(I)I" } : Jvm.MethodName)) ∈ gT := gT_in 1325 (by decide +kernel) (by decide +kernel)
set_option maxRecDepth 20000 in
theorem tSel_X12_X12_X12_trace : (Jvm.Cond.selects "YesterdayScaleModel" ({ cls := "YesterdayScaleModel", name := "trace", desc := "(I)I" } : Jvm.MethodName) ({ cls := "YesterdayScaleModel", name := "trace", desc := "(I)I" } : Jvm.MethodName)) ∈ gT := gT_in 1326 (by decide +kernel) (by decide +kernel)
set_option maxRecDepth 20000 in
theorem tY_X12_trace : (Jvm.Cond.code ({ cls := "YesterdayScaleModel", name := "trace", desc := "(I)I" } : Jvm.MethodName) prog_14_method_72_code (2 : Nat) (Option.some Jvm.ClassFile.FieldType.int)) ∈ gT := gT_in 1327 (by decide +kernel) (by decide +kernel)
set_option maxRecDepth 20000 in
theorem tM_L_128 : (Jvm.Cond.methodLink "YesterdayScaleLaw" (128 : Nat) ({ cls := "YesterdayScaleModel", name := "count", desc := "(I)I" } : Jvm.MethodName)) ∈ gT := gT_in 1328 (by decide +kernel) (by decide +kernel)
set_option maxRecDepth 20000 in
theorem tI_X12_count : (Jvm.Cond.instanceMethod ({ cls := "YesterdayScaleModel", name := "count", desc := "(I)I" } : Jvm.MethodName)) ∈ gT := gT_in 1329 (by decide +kernel) (by decide +kernel)
set_option maxRecDepth 20000 in
theorem tSel_X12_X12_X12_count : (Jvm.Cond.selects "YesterdayScaleModel" ({ cls := "YesterdayScaleModel", name := "count", desc := "(I)I" } : Jvm.MethodName) ({ cls := "YesterdayScaleModel", name := "count", desc := "(I)I" } : Jvm.MethodName)) ∈ gT := gT_in 1330 (by decide +kernel) (by decide +kernel)
set_option maxRecDepth 20000 in
theorem tY_X12_count : (Jvm.Cond.code ({ cls := "YesterdayScaleModel", name := "count", desc := "(I)I" } : Jvm.MethodName) prog_14_method_73_code (4 : Nat) (Option.some Jvm.ClassFile.FieldType.int)) ∈ gT := gT_in 1331 (by decide +kernel) (by decide +kernel)
set_option maxRecDepth 20000 in
theorem tM_L_132 : (Jvm.Cond.methodLink "YesterdayScaleLaw" (132 : Nat) ({ cls := "YesterdayScaleModel", name := "status", desc := "()I" } : Jvm.MethodName)) ∈ gT := gT_in 1332 (by decide +kernel) (by decide +kernel)
set_option maxRecDepth 20000 in
theorem tI_X12_status : (Jvm.Cond.instanceMethod ({ cls := "YesterdayScaleModel", name := "status", desc := "()I" } : Jvm.MethodName)) ∈ gT := gT_in 1333 (by decide +kernel) (by decide +kernel)
set_option maxRecDepth 20000 in
theorem tSel_X12_X12_X12_status : (Jvm.Cond.selects "YesterdayScaleModel" ({ cls := "YesterdayScaleModel", name := "status", desc := "()I" } : Jvm.MethodName) ({ cls := "YesterdayScaleModel", name := "status", desc := "()I" } : Jvm.MethodName)) ∈ gT := gT_in 1334 (by decide +kernel) (by decide +kernel)
set_option maxRecDepth 20000 in
theorem tY_X12_status : (Jvm.Cond.code ({ cls := "YesterdayScaleModel", name := "status", desc := "()I" } : Jvm.MethodName) prog_14_method_74_code (1 : Nat) (Option.some Jvm.ClassFile.FieldType.int)) ∈ gT := gT_in 1335 (by decide +kernel) (by decide +kernel)
set_option maxRecDepth 20000 in
theorem tL_L_32 : (Jvm.Cond.constantLong "YesterdayScaleLaw" (32 : Nat) (4294967295 : Int64)) ∈ gT := gT_in 1336 (by decide +kernel) (by decide +kernel)
set_option maxRecDepth 20000 in
theorem tSam_X7_X7_markBy : (Jvm.Cond.sameMethod "YesterdayScale$Thing" "YesterdayScale$Thing" "markBy" "(LYesterdayScale$Asking;I)I") ∈ gT := gT_in 1337 (by decide +kernel) (by decide +kernel)
set_option maxRecDepth 20000 in
theorem tSam_X5_X5_sizeBy : (Jvm.Cond.sameMethod "YesterdayScale$Stone" "YesterdayScale$Stone" "sizeBy" "(LYesterdayScale$Asking;I)I") ∈ gT := gT_in 1338 (by decide +kernel) (by decide +kernel)
set_option maxRecDepth 20000 in
theorem tSam_X4_X4_sizeBy : (Jvm.Cond.sameMethod "YesterdayScale$Salt" "YesterdayScale$Salt" "sizeBy" "(LYesterdayScale$Asking;I)I") ∈ gT := gT_in 1339 (by decide +kernel) (by decide +kernel)
set_option maxRecDepth 20000 in
theorem tSel_X1_X7_X1_markBy : (Jvm.Cond.selects "YesterdayScale$Fish" ({ cls := "YesterdayScale$Thing", name := "markBy", desc := "(LYesterdayScale$Asking;I)I" } : Jvm.MethodName) ({ cls := "YesterdayScale$Fish", name := "markBy", desc := "(LYesterdayScale$Asking;I)I" } : Jvm.MethodName)) ∈ gT := gT_in 1340 (by decide +kernel) (by decide +kernel)
set_option maxRecDepth 20000 in
theorem tSel_X4_X7_X4_markBy : (Jvm.Cond.selects "YesterdayScale$Salt" ({ cls := "YesterdayScale$Thing", name := "markBy", desc := "(LYesterdayScale$Asking;I)I" } : Jvm.MethodName) ({ cls := "YesterdayScale$Salt", name := "markBy", desc := "(LYesterdayScale$Asking;I)I" } : Jvm.MethodName)) ∈ gT := gT_in 1341 (by decide +kernel) (by decide +kernel)
set_option maxRecDepth 20000 in
theorem tSel_X5_X7_X5_markBy : (Jvm.Cond.selects "YesterdayScale$Stone" ({ cls := "YesterdayScale$Thing", name := "markBy", desc := "(LYesterdayScale$Asking;I)I" } : Jvm.MethodName) ({ cls := "YesterdayScale$Stone", name := "markBy", desc := "(LYesterdayScale$Asking;I)I" } : Jvm.MethodName)) ∈ gT := gT_in 1342 (by decide +kernel) (by decide +kernel)
set_option maxRecDepth 20000 in
theorem tSel_X5_X5_X5_sizeBy : (Jvm.Cond.selects "YesterdayScale$Stone" ({ cls := "YesterdayScale$Stone", name := "sizeBy", desc := "(LYesterdayScale$Asking;I)I" } : Jvm.MethodName) ({ cls := "YesterdayScale$Stone", name := "sizeBy", desc := "(LYesterdayScale$Asking;I)I" } : Jvm.MethodName)) ∈ gT := gT_in 1343 (by decide +kernel) (by decide +kernel)
set_option maxRecDepth 20000 in
theorem tSel_X8_X5_X8_sizeBy : (Jvm.Cond.selects "YesterdayScale$Whale" ({ cls := "YesterdayScale$Stone", name := "sizeBy", desc := "(LYesterdayScale$Asking;I)I" } : Jvm.MethodName) ({ cls := "YesterdayScale$Whale", name := "sizeBy", desc := "(LYesterdayScale$Asking;I)I" } : Jvm.MethodName)) ∈ gT := gT_in 1344 (by decide +kernel) (by decide +kernel)
set_option maxRecDepth 20000 in
theorem tSel_X8_X7_X5_markBy : (Jvm.Cond.selects "YesterdayScale$Whale" ({ cls := "YesterdayScale$Thing", name := "markBy", desc := "(LYesterdayScale$Asking;I)I" } : Jvm.MethodName) ({ cls := "YesterdayScale$Stone", name := "markBy", desc := "(LYesterdayScale$Asking;I)I" } : Jvm.MethodName)) ∈ gT := gT_in 1345 (by decide +kernel) (by decide +kernel)
set_option maxRecDepth 20000 in
theorem tSel_X9_X7_X9_markBy : (Jvm.Cond.selects "YesterdayScale$Wool" ({ cls := "YesterdayScale$Thing", name := "markBy", desc := "(LYesterdayScale$Asking;I)I" } : Jvm.MethodName) ({ cls := "YesterdayScale$Wool", name := "markBy", desc := "(LYesterdayScale$Asking;I)I" } : Jvm.MethodName)) ∈ gT := gT_in 1346 (by decide +kernel) (by decide +kernel)
set_option maxRecDepth 20000 in
theorem tF_J0_9 : (Jvm.Cond.fieldLink "java/lang/String" (9 : Nat) "java/lang/String" "value" "[B") ∈ gT := gT_in 1355 (by decide +kernel) (by decide +kernel)
set_option maxRecDepth 20000 in
theorem tF_J0_15 : (Jvm.Cond.fieldLink "java/lang/String" (15 : Nat) "java/lang/String" "coder" "B") ∈ gT := gT_in 1356 (by decide +kernel) (by decide +kernel)
end
section
theorem dX11_init_0 : decode cX11_init 0 = .ok (.aload_n 0, 1) := by decide +kernel
theorem dX11_init_1 : decode cX11_init 1 = .ok (.invokespecial 1, 3) := by decide +kernel
theorem dX11_init_4 : decode cX11_init 4 = .ok (.aload_n 0, 1) := by decide +kernel
theorem dX11_init_5 : decode cX11_init 5 = .ok (.bipush 8, 2) := by decide +kernel
theorem dX11_init_7 : decode cX11_init 7 = .ok (.anewarray 9, 3) := by decide +kernel
theorem dX11_init_10 : decode cX11_init 10 = .ok (.putfield 11, 3) := by decide +kernel
theorem dX11_init_13 : decode cX11_init 13 = .ok (.aload_n 0, 1) := by decide +kernel
theorem dX11_init_14 : decode cX11_init 14 = .ok (.new 15, 3) := by decide +kernel
theorem dX11_init_17 : decode cX11_init 17 = .ok (.dup, 1) := by decide +kernel
theorem dX11_init_18 : decode cX11_init 18 = .ok (.invokespecial 17, 3) := by decide +kernel
theorem dX11_init_21 : decode cX11_init 21 = .ok (.putfield 18, 3) := by decide +kernel
theorem dX11_init_24 : decode cX11_init 24 = .ok (.aload_n 0, 1) := by decide +kernel
theorem dX11_init_25 : decode cX11_init 25 = .ok (.new 22, 3) := by decide +kernel
theorem dX11_init_28 : decode cX11_init 28 = .ok (.dup, 1) := by decide +kernel
theorem dX11_init_29 : decode cX11_init 29 = .ok (.invokespecial 24, 3) := by decide +kernel
theorem dX11_init_32 : decode cX11_init 32 = .ok (.putfield 25, 3) := by decide +kernel
theorem dX11_init_35 : decode cX11_init 35 = .ok (.aload_n 0, 1) := by decide +kernel
theorem dX11_init_36 : decode cX11_init 36 = .ok (.new 22, 3) := by decide +kernel
theorem dX11_init_39 : decode cX11_init 39 = .ok (.dup, 1) := by decide +kernel
theorem dX11_init_40 : decode cX11_init 40 = .ok (.invokespecial 24, 3) := by decide +kernel
theorem dX11_init_43 : decode cX11_init 43 = .ok (.putfield 29, 3) := by decide +kernel
theorem dX11_init_46 : decode cX11_init 46 = .ok (.aload_n 0, 1) := by decide +kernel
theorem dX11_init_47 : decode cX11_init 47 = .ok (.iconst 2, 1) := by decide +kernel
theorem dX11_init_48 : decode cX11_init 48 = .ok (.anewarray 22, 3) := by decide +kernel
theorem dX11_init_51 : decode cX11_init 51 = .ok (.putfield 32, 3) := by decide +kernel
theorem dX11_init_54 : decode cX11_init 54 = .ok (.aload_n 0, 1) := by decide +kernel
theorem dX11_init_55 : decode cX11_init 55 = .ok (.new 36, 3) := by decide +kernel
theorem dX11_init_58 : decode cX11_init 58 = .ok (.dup, 1) := by decide +kernel
theorem dX11_init_59 : decode cX11_init 59 = .ok (.invokespecial 38, 3) := by decide +kernel
theorem dX11_init_62 : decode cX11_init 62 = .ok (.putfield 39, 3) := by decide +kernel
theorem dX11_init_65 : decode cX11_init 65 = .ok (.aload_n 0, 1) := by decide +kernel
theorem dX11_init_66 : decode cX11_init 66 = .ok (.new 43, 3) := by decide +kernel
theorem dX11_init_69 : decode cX11_init 69 = .ok (.dup, 1) := by decide +kernel
theorem dX11_init_70 : decode cX11_init 70 = .ok (.invokespecial 45, 3) := by decide +kernel
theorem dX11_init_73 : decode cX11_init 73 = .ok (.putfield 46, 3) := by decide +kernel
theorem dX11_init_76 : decode cX11_init 76 = .ok (.iconst 0, 1) := by decide +kernel
theorem dX11_init_77 : decode cX11_init 77 = .ok (.istore_n 1, 1) := by decide +kernel
theorem dX11_init_78 : decode cX11_init 78 = .ok (.iload_n 1, 1) := by decide +kernel
theorem dX11_init_79 : decode cX11_init 79 = .ok (.bipush 8, 2) := by decide +kernel
theorem dX11_init_81 : decode cX11_init 81 = .ok (.if_icmp .ge 22, 3) := by decide +kernel
theorem dX11_init_84 : decode cX11_init 84 = .ok (.aload_n 0, 1) := by decide +kernel
theorem dX11_init_85 : decode cX11_init 85 = .ok (.getfield 11, 3) := by decide +kernel
theorem dX11_init_88 : decode cX11_init 88 = .ok (.iload_n 1, 1) := by decide +kernel
theorem dX11_init_89 : decode cX11_init 89 = .ok (.new 9, 3) := by decide +kernel
theorem dX11_init_92 : decode cX11_init 92 = .ok (.dup, 1) := by decide +kernel
theorem dX11_init_93 : decode cX11_init 93 = .ok (.invokespecial 50, 3) := by decide +kernel
theorem dX11_init_96 : decode cX11_init 96 = .ok (.aastore, 1) := by decide +kernel
theorem dX11_init_97 : decode cX11_init 97 = .ok (.iinc 1 1, 3) := by decide +kernel
theorem dX11_init_100 : decode cX11_init 100 = .ok (.goto (-22), 3) := by decide +kernel
theorem dX11_init_103 : decode cX11_init 103 = .ok (.iconst 0, 1) := by decide +kernel
theorem dX11_init_104 : decode cX11_init 104 = .ok (.istore_n 1, 1) := by decide +kernel
theorem dX11_init_105 : decode cX11_init 105 = .ok (.iload_n 1, 1) := by decide +kernel
theorem dX11_init_106 : decode cX11_init 106 = .ok (.iconst 2, 1) := by decide +kernel
theorem dX11_init_107 : decode cX11_init 107 = .ok (.if_icmp .ge 22, 3) := by decide +kernel
theorem dX11_init_110 : decode cX11_init 110 = .ok (.aload_n 0, 1) := by decide +kernel
theorem dX11_init_111 : decode cX11_init 111 = .ok (.getfield 32, 3) := by decide +kernel
theorem dX11_init_114 : decode cX11_init 114 = .ok (.iload_n 1, 1) := by decide +kernel
theorem dX11_init_115 : decode cX11_init 115 = .ok (.new 22, 3) := by decide +kernel
theorem dX11_init_118 : decode cX11_init 118 = .ok (.dup, 1) := by decide +kernel
theorem dX11_init_119 : decode cX11_init 119 = .ok (.invokespecial 24, 3) := by decide +kernel
theorem dX11_init_122 : decode cX11_init 122 = .ok (.aastore, 1) := by decide +kernel
theorem dX11_init_123 : decode cX11_init 123 = .ok (.iinc 1 1, 3) := by decide +kernel
theorem dX11_init_126 : decode cX11_init 126 = .ok (.goto (-21), 3) := by decide +kernel
theorem dX11_init_129 : decode cX11_init 129 = .ok (.return_, 1) := by decide +kernel
theorem dX11_row_0 : decode cX11_row 0 = .ok (.iload_n 1, 1) := by decide +kernel
theorem dX11_row_1 : decode cX11_row 1 = .ok (.invokestatic 51, 3) := by decide +kernel
theorem dX11_row_4 : decode cX11_row 4 = .ok (.ifCond .eq 18, 3) := by decide +kernel
theorem dX11_row_7 : decode cX11_row 7 = .ok (.iload_n 2, 1) := by decide +kernel
theorem dX11_row_8 : decode cX11_row 8 = .ok (.ifCond .lt 14, 3) := by decide +kernel
theorem dX11_row_11 : decode cX11_row 11 = .ok (.iload_n 2, 1) := by decide +kernel
theorem dX11_row_12 : decode cX11_row 12 = .ok (.iconst 2, 1) := by decide +kernel
theorem dX11_row_13 : decode cX11_row 13 = .ok (.if_icmp .gt 9, 3) := by decide +kernel
theorem dX11_row_16 : decode cX11_row 16 = .ok (.iload_n 3, 1) := by decide +kernel
theorem dX11_row_17 : decode cX11_row 17 = .ok (.bipush 40, 2) := by decide +kernel
theorem dX11_row_19 : decode cX11_row 19 = .ok (.if_icmp .le 6, 3) := by decide +kernel
theorem dX11_row_22 : decode cX11_row 22 = .ok (.ldc 55, 2) := by decide +kernel
theorem dX11_row_24 : decode cX11_row 24 = .ok (.ireturn, 1) := by decide +kernel
theorem dX11_row_25 : decode cX11_row 25 = .ok (.iload_n 3, 1) := by decide +kernel
theorem dX11_row_26 : decode cX11_row 26 = .ok (.ifCond .ge 9, 3) := by decide +kernel
theorem dX11_row_29 : decode cX11_row 29 = .ok (.aload_n 0, 1) := by decide +kernel
theorem dX11_row_30 : decode cX11_row 30 = .ok (.iconst 4, 1) := by decide +kernel
theorem dX11_row_31 : decode cX11_row 31 = .ok (.invokevirtual 56, 3) := by decide +kernel
theorem dX11_row_34 : decode cX11_row 34 = .ok (.ireturn, 1) := by decide +kernel
theorem dX11_row_35 : decode cX11_row 35 = .ok (.aload_n 0, 1) := by decide +kernel
theorem dX11_row_36 : decode cX11_row 36 = .ok (.getfield 11, 3) := by decide +kernel
theorem dX11_row_39 : decode cX11_row 39 = .ok (.iload_n 1, 1) := by decide +kernel
theorem dX11_row_40 : decode cX11_row 40 = .ok (.aaload, 1) := by decide +kernel
theorem dX11_row_41 : decode cX11_row 41 = .ok (.iload_n 2, 1) := by decide +kernel
theorem dX11_row_42 : decode cX11_row 42 = .ok (.iload_n 3, 1) := by decide +kernel
theorem dX11_row_43 : decode cX11_row 43 = .ok (.invokevirtual 60, 3) := by decide +kernel
theorem dX11_row_46 : decode cX11_row 46 = .ok (.aload_n 0, 1) := by decide +kernel
theorem dX11_row_47 : decode cX11_row 47 = .ok (.iload_n 3, 1) := by decide +kernel
theorem dX11_row_48 : decode cX11_row 48 = .ok (.invokevirtual 64, 3) := by decide +kernel
theorem dX11_row_51 : decode cX11_row 51 = .ok (.ireturn, 1) := by decide +kernel
theorem dX11_set_0 : decode cX11_set 0 = .ok (.iload_n 1, 1) := by decide +kernel
theorem dX11_set_1 : decode cX11_set 1 = .ok (.invokestatic 51, 3) := by decide +kernel
theorem dX11_set_4 : decode cX11_set 4 = .ok (.ifCond .ne 6, 3) := by decide +kernel
theorem dX11_set_7 : decode cX11_set 7 = .ok (.ldc 55, 2) := by decide +kernel
theorem dX11_set_9 : decode cX11_set 9 = .ok (.ireturn, 1) := by decide +kernel
theorem dX11_set_10 : decode cX11_set 10 = .ok (.aload_n 0, 1) := by decide +kernel
theorem dX11_set_11 : decode cX11_set 11 = .ok (.getfield 11, 3) := by decide +kernel
theorem dX11_set_14 : decode cX11_set 14 = .ok (.iload_n 1, 1) := by decide +kernel
theorem dX11_set_15 : decode cX11_set 15 = .ok (.aaload, 1) := by decide +kernel
theorem dX11_set_16 : decode cX11_set 16 = .ok (.astore 4, 2) := by decide +kernel
theorem dX11_set_18 : decode cX11_set 18 = .ok (.aload 4, 2) := by decide +kernel
theorem dX11_set_20 : decode cX11_set 20 = .ok (.getfield 67, 3) := by decide +kernel
theorem dX11_set_23 : decode cX11_set 23 = .ok (.ifCond .ne 9, 3) := by decide +kernel
theorem dX11_set_26 : decode cX11_set 26 = .ok (.aload_n 0, 1) := by decide +kernel
theorem dX11_set_27 : decode cX11_set 27 = .ok (.iconst 1, 1) := by decide +kernel
theorem dX11_set_28 : decode cX11_set 28 = .ok (.invokevirtual 56, 3) := by decide +kernel
theorem dX11_set_31 : decode cX11_set 31 = .ok (.ireturn, 1) := by decide +kernel
theorem dX11_set_32 : decode cX11_set 32 = .ok (.iload_n 2, 1) := by decide +kernel
theorem dX11_set_33 : decode cX11_set 33 = .ok (.ifCond .lt 12, 3) := by decide +kernel
theorem dX11_set_36 : decode cX11_set 36 = .ok (.iload_n 2, 1) := by decide +kernel
theorem dX11_set_37 : decode cX11_set 37 = .ok (.aload 4, 2) := by decide +kernel
theorem dX11_set_39 : decode cX11_set 39 = .ok (.getfield 71, 3) := by decide +kernel
theorem dX11_set_42 : decode cX11_set 42 = .ok (.if_icmp .lt 9, 3) := by decide +kernel
theorem dX11_set_45 : decode cX11_set 45 = .ok (.aload_n 0, 1) := by decide +kernel
theorem dX11_set_46 : decode cX11_set 46 = .ok (.iconst 2, 1) := by decide +kernel
theorem dX11_set_47 : decode cX11_set 47 = .ok (.invokevirtual 56, 3) := by decide +kernel
theorem dX11_set_50 : decode cX11_set 50 = .ok (.ireturn, 1) := by decide +kernel
theorem dX11_set_51 : decode cX11_set 51 = .ok (.aload 4, 2) := by decide +kernel
theorem dX11_set_53 : decode cX11_set 53 = .ok (.getfield 75, 3) := by decide +kernel
theorem dX11_set_56 : decode cX11_set 56 = .ok (.iload_n 2, 1) := by decide +kernel
theorem dX11_set_57 : decode cX11_set 57 = .ok (.aload 4, 2) := by decide +kernel
theorem dX11_set_59 : decode cX11_set 59 = .ok (.iload_n 3, 1) := by decide +kernel
theorem dX11_set_60 : decode cX11_set 60 = .ok (.invokevirtual 79, 3) := by decide +kernel
theorem dX11_set_63 : decode cX11_set 63 = .ok (.iastore, 1) := by decide +kernel
theorem dX11_set_64 : decode cX11_set 64 = .ok (.aload_n 0, 1) := by decide +kernel
theorem dX11_set_65 : decode cX11_set 65 = .ok (.aload 4, 2) := by decide +kernel
theorem dX11_set_67 : decode cX11_set 67 = .ok (.getfield 75, 3) := by decide +kernel
theorem dX11_set_70 : decode cX11_set 70 = .ok (.iload_n 2, 1) := by decide +kernel
theorem dX11_set_71 : decode cX11_set 71 = .ok (.iaload, 1) := by decide +kernel
theorem dX11_set_72 : decode cX11_set 72 = .ok (.invokevirtual 64, 3) := by decide +kernel
theorem dX11_set_75 : decode cX11_set 75 = .ok (.ireturn, 1) := by decide +kernel
theorem dX11_copy_0 : decode cX11_copy 0 = .ok (.iload_n 1, 1) := by decide +kernel
theorem dX11_copy_1 : decode cX11_copy 1 = .ok (.invokestatic 51, 3) := by decide +kernel
theorem dX11_copy_4 : decode cX11_copy 4 = .ok (.ifCond .eq 10, 3) := by decide +kernel
theorem dX11_copy_7 : decode cX11_copy 7 = .ok (.iload_n 3, 1) := by decide +kernel
theorem dX11_copy_8 : decode cX11_copy 8 = .ok (.invokestatic 51, 3) := by decide +kernel
theorem dX11_copy_11 : decode cX11_copy 11 = .ok (.ifCond .ne 6, 3) := by decide +kernel
theorem dX11_copy_14 : decode cX11_copy 14 = .ok (.ldc 55, 2) := by decide +kernel
theorem dX11_copy_16 : decode cX11_copy 16 = .ok (.ireturn, 1) := by decide +kernel
theorem dX11_copy_17 : decode cX11_copy 17 = .ok (.aload_n 0, 1) := by decide +kernel
theorem dX11_copy_18 : decode cX11_copy 18 = .ok (.getfield 11, 3) := by decide +kernel
theorem dX11_copy_21 : decode cX11_copy 21 = .ok (.iload_n 1, 1) := by decide +kernel
theorem dX11_copy_22 : decode cX11_copy 22 = .ok (.aaload, 1) := by decide +kernel
theorem dX11_copy_23 : decode cX11_copy 23 = .ok (.astore 6, 2) := by decide +kernel
theorem dX11_copy_25 : decode cX11_copy 25 = .ok (.aload_n 0, 1) := by decide +kernel
theorem dX11_copy_26 : decode cX11_copy 26 = .ok (.getfield 11, 3) := by decide +kernel
theorem dX11_copy_29 : decode cX11_copy 29 = .ok (.iload_n 3, 1) := by decide +kernel
theorem dX11_copy_30 : decode cX11_copy 30 = .ok (.aaload, 1) := by decide +kernel
theorem dX11_copy_31 : decode cX11_copy 31 = .ok (.astore 7, 2) := by decide +kernel
theorem dX11_copy_33 : decode cX11_copy 33 = .ok (.aload 6, 2) := by decide +kernel
theorem dX11_copy_35 : decode cX11_copy 35 = .ok (.getfield 67, 3) := by decide +kernel
theorem dX11_copy_38 : decode cX11_copy 38 = .ok (.ifCond .eq 11, 3) := by decide +kernel
theorem dX11_copy_41 : decode cX11_copy 41 = .ok (.aload 7, 2) := by decide +kernel
theorem dX11_copy_43 : decode cX11_copy 43 = .ok (.getfield 67, 3) := by decide +kernel
theorem dX11_copy_46 : decode cX11_copy 46 = .ok (.ifCond .ne 9, 3) := by decide +kernel
theorem dX11_copy_49 : decode cX11_copy 49 = .ok (.aload_n 0, 1) := by decide +kernel
theorem dX11_copy_50 : decode cX11_copy 50 = .ok (.iconst 1, 1) := by decide +kernel
theorem dX11_copy_51 : decode cX11_copy 51 = .ok (.invokevirtual 56, 3) := by decide +kernel
theorem dX11_copy_54 : decode cX11_copy 54 = .ok (.ireturn, 1) := by decide +kernel
theorem dX11_copy_55 : decode cX11_copy 55 = .ok (.aload 6, 2) := by decide +kernel
theorem dX11_copy_57 : decode cX11_copy 57 = .ok (.getfield 82, 3) := by decide +kernel
theorem dX11_copy_60 : decode cX11_copy 60 = .ok (.aload 7, 2) := by decide +kernel
theorem dX11_copy_62 : decode cX11_copy 62 = .ok (.getfield 82, 3) := by decide +kernel
theorem dX11_copy_65 : decode cX11_copy 65 = .ok (.if_icmp .eq 9, 3) := by decide +kernel
theorem dX11_copy_68 : decode cX11_copy 68 = .ok (.aload_n 0, 1) := by decide +kernel
theorem dX11_copy_69 : decode cX11_copy 69 = .ok (.iconst 5, 1) := by decide +kernel
theorem dX11_copy_70 : decode cX11_copy 70 = .ok (.invokevirtual 56, 3) := by decide +kernel
theorem dX11_copy_73 : decode cX11_copy 73 = .ok (.ireturn, 1) := by decide +kernel
theorem dX11_copy_74 : decode cX11_copy 74 = .ok (.aload 6, 2) := by decide +kernel
theorem dX11_copy_76 : decode cX11_copy 76 = .ok (.iload_n 2, 1) := by decide +kernel
theorem dX11_copy_77 : decode cX11_copy 77 = .ok (.iload 5, 2) := by decide +kernel
theorem dX11_copy_79 : decode cX11_copy 79 = .ok (.invokevirtual 85, 3) := by decide +kernel
theorem dX11_copy_82 : decode cX11_copy 82 = .ok (.ifCond .eq 15, 3) := by decide +kernel
theorem dX11_copy_85 : decode cX11_copy 85 = .ok (.aload 7, 2) := by decide +kernel
theorem dX11_copy_87 : decode cX11_copy 87 = .ok (.iload 4, 2) := by decide +kernel
theorem dX11_copy_89 : decode cX11_copy 89 = .ok (.iload 5, 2) := by decide +kernel
theorem dX11_copy_91 : decode cX11_copy 91 = .ok (.invokevirtual 85, 3) := by decide +kernel
theorem dX11_copy_94 : decode cX11_copy 94 = .ok (.ifCond .ne 9, 3) := by decide +kernel
theorem dX11_copy_97 : decode cX11_copy 97 = .ok (.aload_n 0, 1) := by decide +kernel
theorem dX11_copy_98 : decode cX11_copy 98 = .ok (.iconst 2, 1) := by decide +kernel
theorem dX11_copy_99 : decode cX11_copy 99 = .ok (.invokevirtual 56, 3) := by decide +kernel
theorem dX11_copy_102 : decode cX11_copy 102 = .ok (.ireturn, 1) := by decide +kernel
theorem dX11_copy_103 : decode cX11_copy 103 = .ok (.aload 6, 2) := by decide +kernel
theorem dX11_copy_105 : decode cX11_copy 105 = .ok (.getfield 75, 3) := by decide +kernel
theorem dX11_copy_108 : decode cX11_copy 108 = .ok (.iload_n 2, 1) := by decide +kernel
theorem dX11_copy_109 : decode cX11_copy 109 = .ok (.aload 7, 2) := by decide +kernel
theorem dX11_copy_111 : decode cX11_copy 111 = .ok (.getfield 75, 3) := by decide +kernel
theorem dX11_copy_114 : decode cX11_copy 114 = .ok (.iload 4, 2) := by decide +kernel
theorem dX11_copy_116 : decode cX11_copy 116 = .ok (.iload 5, 2) := by decide +kernel
theorem dX11_copy_118 : decode cX11_copy 118 = .ok (.invokestatic 89, 3) := by decide +kernel
theorem dX11_copy_121 : decode cX11_copy 121 = .ok (.aload_n 0, 1) := by decide +kernel
theorem dX11_copy_122 : decode cX11_copy 122 = .ok (.iload 5, 2) := by decide +kernel
theorem dX11_copy_124 : decode cX11_copy 124 = .ok (.invokevirtual 64, 3) := by decide +kernel
theorem dX11_copy_127 : decode cX11_copy 127 = .ok (.ireturn, 1) := by decide +kernel
theorem dX11_drop_0 : decode cX11_drop 0 = .ok (.iload_n 1, 1) := by decide +kernel
theorem dX11_drop_1 : decode cX11_drop 1 = .ok (.invokestatic 51, 3) := by decide +kernel
theorem dX11_drop_4 : decode cX11_drop 4 = .ok (.ifCond .ne 6, 3) := by decide +kernel
theorem dX11_drop_7 : decode cX11_drop 7 = .ok (.ldc 55, 2) := by decide +kernel
theorem dX11_drop_9 : decode cX11_drop 9 = .ok (.ireturn, 1) := by decide +kernel
theorem dX11_drop_10 : decode cX11_drop 10 = .ok (.aload_n 0, 1) := by decide +kernel
theorem dX11_drop_11 : decode cX11_drop 11 = .ok (.getfield 11, 3) := by decide +kernel
theorem dX11_drop_14 : decode cX11_drop 14 = .ok (.iload_n 1, 1) := by decide +kernel
theorem dX11_drop_15 : decode cX11_drop 15 = .ok (.aaload, 1) := by decide +kernel
theorem dX11_drop_16 : decode cX11_drop 16 = .ok (.getfield 67, 3) := by decide +kernel
theorem dX11_drop_19 : decode cX11_drop 19 = .ok (.ifCond .ne 9, 3) := by decide +kernel
theorem dX11_drop_22 : decode cX11_drop 22 = .ok (.aload_n 0, 1) := by decide +kernel
theorem dX11_drop_23 : decode cX11_drop 23 = .ok (.iconst 1, 1) := by decide +kernel
theorem dX11_drop_24 : decode cX11_drop 24 = .ok (.invokevirtual 56, 3) := by decide +kernel
theorem dX11_drop_27 : decode cX11_drop 27 = .ok (.ireturn, 1) := by decide +kernel
theorem dX11_drop_28 : decode cX11_drop 28 = .ok (.aload_n 0, 1) := by decide +kernel
theorem dX11_drop_29 : decode cX11_drop 29 = .ok (.getfield 11, 3) := by decide +kernel
theorem dX11_drop_32 : decode cX11_drop 32 = .ok (.iload_n 1, 1) := by decide +kernel
theorem dX11_drop_33 : decode cX11_drop 33 = .ok (.aaload, 1) := by decide +kernel
theorem dX11_drop_34 : decode cX11_drop 34 = .ok (.iconst 0, 1) := by decide +kernel
theorem dX11_drop_35 : decode cX11_drop 35 = .ok (.putfield 67, 3) := by decide +kernel
theorem dX11_drop_38 : decode cX11_drop 38 = .ok (.aload_n 0, 1) := by decide +kernel
theorem dX11_drop_39 : decode cX11_drop 39 = .ok (.aload_n 0, 1) := by decide +kernel
theorem dX11_drop_40 : decode cX11_drop 40 = .ok (.getfield 11, 3) := by decide +kernel
theorem dX11_drop_43 : decode cX11_drop 43 = .ok (.iload_n 1, 1) := by decide +kernel
theorem dX11_drop_44 : decode cX11_drop 44 = .ok (.aaload, 1) := by decide +kernel
theorem dX11_drop_45 : decode cX11_drop 45 = .ok (.getfield 71, 3) := by decide +kernel
theorem dX11_drop_48 : decode cX11_drop 48 = .ok (.invokevirtual 64, 3) := by decide +kernel
theorem dX11_drop_51 : decode cX11_drop 51 = .ok (.ireturn, 1) := by decide +kernel
theorem dX11_feed_0 : decode cX11_feed 0 = .ok (.iload_n 3, 1) := by decide +kernel
theorem dX11_feed_1 : decode cX11_feed 1 = .ok (.iconst 1, 1) := by decide +kernel
theorem dX11_feed_2 : decode cX11_feed 2 = .ok (.if_icmp .lt 9, 3) := by decide +kernel
theorem dX11_feed_5 : decode cX11_feed 5 = .ok (.iload_n 3, 1) := by decide +kernel
theorem dX11_feed_6 : decode cX11_feed 6 = .ok (.bipush 8, 2) := by decide +kernel
theorem dX11_feed_8 : decode cX11_feed 8 = .ok (.if_icmp .le 6, 3) := by decide +kernel
theorem dX11_feed_11 : decode cX11_feed 11 = .ok (.ldc 55, 2) := by decide +kernel
theorem dX11_feed_13 : decode cX11_feed 13 = .ok (.ireturn, 1) := by decide +kernel
theorem dX11_feed_14 : decode cX11_feed 14 = .ok (.aload_n 0, 1) := by decide +kernel
theorem dX11_feed_15 : decode cX11_feed 15 = .ok (.getfield 18, 3) := by decide +kernel
theorem dX11_feed_18 : decode cX11_feed 18 = .ok (.iload_n 3, 1) := by decide +kernel
theorem dX11_feed_19 : decode cX11_feed 19 = .ok (.invokevirtual 95, 3) := by decide +kernel
theorem dX11_feed_22 : decode cX11_feed 22 = .ok (.ifCond .eq 15, 3) := by decide +kernel
theorem dX11_feed_25 : decode cX11_feed 25 = .ok (.aload_n 0, 1) := by decide +kernel
theorem dX11_feed_26 : decode cX11_feed 26 = .ok (.getfield 18, 3) := by decide +kernel
theorem dX11_feed_29 : decode cX11_feed 29 = .ok (.lload_n 1, 1) := by decide +kernel
theorem dX11_feed_30 : decode cX11_feed 30 = .ok (.iload_n 3, 1) := by decide +kernel
theorem dX11_feed_31 : decode cX11_feed 31 = .ok (.invokevirtual 98, 3) := by decide +kernel
theorem dX11_feed_34 : decode cX11_feed 34 = .ok (.goto 5, 3) := by decide +kernel
theorem dX11_feed_37 : decode cX11_feed 37 = .ok (.ldc 102, 2) := by decide +kernel
theorem dX11_feed_39 : decode cX11_feed 39 = .ok (.ireturn, 1) := by decide +kernel
theorem dX11_port_0 : decode cX11_port 0 = .ok (.aload_n 0, 1) := by decide +kernel
theorem dX11_port_1 : decode cX11_port 1 = .ok (.getfield 18, 3) := by decide +kernel
theorem dX11_port_4 : decode cX11_port 4 = .ok (.aload_n 0, 1) := by decide +kernel
theorem dX11_port_5 : decode cX11_port 5 = .ok (.getfield 29, 3) := by decide +kernel
theorem dX11_port_8 : decode cX11_port 8 = .ok (.invokevirtual 103, 3) := by decide +kernel
theorem dX11_port_11 : decode cX11_port 11 = .ok (.ifCond .ne 25, 3) := by decide +kernel
theorem dX11_port_14 : decode cX11_port 14 = .ok (.aload_n 0, 1) := by decide +kernel
theorem dX11_port_15 : decode cX11_port 15 = .ok (.aload_n 0, 1) := by decide +kernel
theorem dX11_port_16 : decode cX11_port 16 = .ok (.getfield 18, 3) := by decide +kernel
theorem dX11_port_19 : decode cX11_port 19 = .ok (.getfield 107, 3) := by decide +kernel
theorem dX11_port_22 : decode cX11_port 22 = .ok (.putfield 110, 3) := by decide +kernel
theorem dX11_port_25 : decode cX11_port 25 = .ok (.ldc 113, 2) := by decide +kernel
theorem dX11_port_27 : decode cX11_port 27 = .ok (.aload_n 0, 1) := by decide +kernel
theorem dX11_port_28 : decode cX11_port 28 = .ok (.getfield 18, 3) := by decide +kernel
theorem dX11_port_31 : decode cX11_port 31 = .ok (.getfield 114, 3) := by decide +kernel
theorem dX11_port_34 : decode cX11_port 34 = .ok (.isub, 1) := by decide +kernel
theorem dX11_port_35 : decode cX11_port 35 = .ok (.ireturn, 1) := by decide +kernel
theorem dX11_port_36 : decode cX11_port 36 = .ok (.aload_n 0, 1) := by decide +kernel
theorem dX11_port_37 : decode cX11_port 37 = .ok (.getfield 25, 3) := by decide +kernel
theorem dX11_port_40 : decode cX11_port 40 = .ok (.aload_n 0, 1) := by decide +kernel
theorem dX11_port_41 : decode cX11_port 41 = .ok (.getfield 29, 3) := by decide +kernel
theorem dX11_port_44 : decode cX11_port 44 = .ok (.invokevirtual 117, 3) := by decide +kernel
theorem dX11_port_47 : decode cX11_port 47 = .ok (.aload_n 0, 1) := by decide +kernel
theorem dX11_port_48 : decode cX11_port 48 = .ok (.getfield 39, 3) := by decide +kernel
theorem dX11_port_51 : decode cX11_port 51 = .ok (.invokevirtual 121, 3) := by decide +kernel
theorem dX11_port_54 : decode cX11_port 54 = .ok (.aload_n 0, 1) := by decide +kernel
theorem dX11_port_55 : decode cX11_port 55 = .ok (.getfield 25, 3) := by decide +kernel
theorem dX11_port_58 : decode cX11_port 58 = .ok (.getfield 124, 3) := by decide +kernel
theorem dX11_port_61 : decode cX11_port 61 = .ok (.ireturn, 1) := by decide +kernel
theorem dX11_fault_0 : decode cX11_fault 0 = .ok (.aload_n 0, 1) := by decide +kernel
theorem dX11_fault_1 : decode cX11_fault 1 = .ok (.getfield 110, 3) := by decide +kernel
theorem dX11_fault_4 : decode cX11_fault 4 = .ok (.ireturn, 1) := by decide +kernel
theorem dX11_day_0 : decode cX11_day 0 = .ok (.aload_n 0, 1) := by decide +kernel
theorem dX11_day_1 : decode cX11_day 1 = .ok (.getfield 25, 3) := by decide +kernel
theorem dX11_day_4 : decode cX11_day 4 = .ok (.getfield 127, 3) := by decide +kernel
theorem dX11_day_7 : decode cX11_day 7 = .ok (.ifCond .ne 6, 3) := by decide +kernel
theorem dX11_day_10 : decode cX11_day 10 = .ok (.ldc 128, 2) := by decide +kernel
theorem dX11_day_12 : decode cX11_day 12 = .ok (.ireturn, 1) := by decide +kernel
theorem dX11_day_13 : decode cX11_day 13 = .ok (.aload_n 0, 1) := by decide +kernel
theorem dX11_day_14 : decode cX11_day 14 = .ok (.getfield 25, 3) := by decide +kernel
theorem dX11_day_17 : decode cX11_day 17 = .ok (.iload_n 1, 1) := by decide +kernel
theorem dX11_day_18 : decode cX11_day 18 = .ok (.invokevirtual 129, 3) := by decide +kernel
theorem dX11_day_21 : decode cX11_day 21 = .ok (.ifCond .ne 6, 3) := by decide +kernel
theorem dX11_day_24 : decode cX11_day 24 = .ok (.ldc 55, 2) := by decide +kernel
theorem dX11_day_26 : decode cX11_day 26 = .ok (.ireturn, 1) := by decide +kernel
theorem dX11_day_27 : decode cX11_day 27 = .ok (.aload_n 0, 1) := by decide +kernel
theorem dX11_day_28 : decode cX11_day 28 = .ok (.getfield 25, 3) := by decide +kernel
theorem dX11_day_31 : decode cX11_day 31 = .ok (.getfield 124, 3) := by decide +kernel
theorem dX11_day_34 : decode cX11_day 34 = .ok (.bipush 24, 2) := by decide +kernel
theorem dX11_day_36 : decode cX11_day 36 = .ok (.if_icmp .lt 6, 3) := by decide +kernel
theorem dX11_day_39 : decode cX11_day 39 = .ok (.ldc 102, 2) := by decide +kernel
theorem dX11_day_41 : decode cX11_day 41 = .ok (.ireturn, 1) := by decide +kernel
theorem dX11_day_42 : decode cX11_day 42 = .ok (.aload_n 0, 1) := by decide +kernel
theorem dX11_day_43 : decode cX11_day 43 = .ok (.getfield 25, 3) := by decide +kernel
theorem dX11_day_46 : decode cX11_day 46 = .ok (.iload_n 1, 1) := by decide +kernel
theorem dX11_day_47 : decode cX11_day 47 = .ok (.invokevirtual 132, 3) := by decide +kernel
theorem dX11_day_50 : decode cX11_day 50 = .ok (.aload_n 0, 1) := by decide +kernel
theorem dX11_day_51 : decode cX11_day 51 = .ok (.getfield 39, 3) := by decide +kernel
theorem dX11_day_54 : decode cX11_day 54 = .ok (.invokevirtual 121, 3) := by decide +kernel
theorem dX11_day_57 : decode cX11_day 57 = .ok (.aload_n 0, 1) := by decide +kernel
theorem dX11_day_58 : decode cX11_day 58 = .ok (.getfield 25, 3) := by decide +kernel
theorem dX11_day_61 : decode cX11_day 61 = .ok (.aload_n 0, 1) := by decide +kernel
theorem dX11_day_62 : decode cX11_day 62 = .ok (.getfield 25, 3) := by decide +kernel
theorem dX11_day_65 : decode cX11_day 65 = .ok (.getfield 124, 3) := by decide +kernel
theorem dX11_day_68 : decode cX11_day 68 = .ok (.iconst 1, 1) := by decide +kernel
theorem dX11_day_69 : decode cX11_day 69 = .ok (.isub, 1) := by decide +kernel
theorem dX11_day_70 : decode cX11_day 70 = .ok (.invokevirtual 136, 3) := by decide +kernel
theorem dX11_day_73 : decode cX11_day 73 = .ok (.ireturn, 1) := by decide +kernel
theorem dX11_undo_0 : decode cX11_undo 0 = .ok (.aload_n 0, 1) := by decide +kernel
theorem dX11_undo_1 : decode cX11_undo 1 = .ok (.getfield 25, 3) := by decide +kernel
theorem dX11_undo_4 : decode cX11_undo 4 = .ok (.getfield 124, 3) := by decide +kernel
theorem dX11_undo_7 : decode cX11_undo 7 = .ok (.ifCond .gt 6, 3) := by decide +kernel
theorem dX11_undo_10 : decode cX11_undo 10 = .ok (.ldc 128, 2) := by decide +kernel
theorem dX11_undo_12 : decode cX11_undo 12 = .ok (.ireturn, 1) := by decide +kernel
theorem dX11_undo_13 : decode cX11_undo 13 = .ok (.aload_n 0, 1) := by decide +kernel
theorem dX11_undo_14 : decode cX11_undo 14 = .ok (.getfield 25, 3) := by decide +kernel
theorem dX11_undo_17 : decode cX11_undo 17 = .ok (.dup, 1) := by decide +kernel
theorem dX11_undo_18 : decode cX11_undo 18 = .ok (.getfield 124, 3) := by decide +kernel
theorem dX11_undo_21 : decode cX11_undo 21 = .ok (.iconst 1, 1) := by decide +kernel
theorem dX11_undo_22 : decode cX11_undo 22 = .ok (.isub, 1) := by decide +kernel
theorem dX11_undo_23 : decode cX11_undo 23 = .ok (.putfield 124, 3) := by decide +kernel
theorem dX11_undo_26 : decode cX11_undo 26 = .ok (.aload_n 0, 1) := by decide +kernel
theorem dX11_undo_27 : decode cX11_undo 27 = .ok (.getfield 39, 3) := by decide +kernel
theorem dX11_undo_30 : decode cX11_undo 30 = .ok (.invokevirtual 121, 3) := by decide +kernel
theorem dX11_undo_33 : decode cX11_undo 33 = .ok (.aload_n 0, 1) := by decide +kernel
theorem dX11_undo_34 : decode cX11_undo 34 = .ok (.getfield 25, 3) := by decide +kernel
theorem dX11_undo_37 : decode cX11_undo 37 = .ok (.getfield 124, 3) := by decide +kernel
theorem dX11_undo_40 : decode cX11_undo 40 = .ok (.ireturn, 1) := by decide +kernel
theorem dX11_shown_0 : decode cX11_shown 0 = .ok (.aload_n 0, 1) := by decide +kernel
theorem dX11_shown_1 : decode cX11_shown 1 = .ok (.getfield 25, 3) := by decide +kernel
theorem dX11_shown_4 : decode cX11_shown 4 = .ok (.iload_n 1, 1) := by decide +kernel
theorem dX11_shown_5 : decode cX11_shown 5 = .ok (.invokevirtual 139, 3) := by decide +kernel
theorem dX11_shown_8 : decode cX11_shown 8 = .ok (.ifCond .ne 6, 3) := by decide +kernel
theorem dX11_shown_11 : decode cX11_shown 11 = .ok (.ldc 55, 2) := by decide +kernel
theorem dX11_shown_13 : decode cX11_shown 13 = .ok (.ireturn, 1) := by decide +kernel
theorem dX11_shown_14 : decode cX11_shown 14 = .ok (.iload_n 2, 1) := by decide +kernel
theorem dX11_shown_15 : decode cX11_shown 15 = .ok (.tableswitch 74 0 3 #[29, 39, 48, 57], 29) := by decide +kernel
theorem dX11_shown_44 : decode cX11_shown 44 = .ok (.aload_n 0, 1) := by decide +kernel
theorem dX11_shown_45 : decode cX11_shown 45 = .ok (.getfield 25, 3) := by decide +kernel
theorem dX11_shown_48 : decode cX11_shown 48 = .ok (.getfield 142, 3) := by decide +kernel
theorem dX11_shown_51 : decode cX11_shown 51 = .ok (.iload_n 1, 1) := by decide +kernel
theorem dX11_shown_52 : decode cX11_shown 52 = .ok (.iaload, 1) := by decide +kernel
theorem dX11_shown_53 : decode cX11_shown 53 = .ok (.ireturn, 1) := by decide +kernel
theorem dX11_shown_54 : decode cX11_shown 54 = .ok (.aload_n 0, 1) := by decide +kernel
theorem dX11_shown_55 : decode cX11_shown 55 = .ok (.getfield 25, 3) := by decide +kernel
theorem dX11_shown_58 : decode cX11_shown 58 = .ok (.iload_n 1, 1) := by decide +kernel
theorem dX11_shown_59 : decode cX11_shown 59 = .ok (.invokevirtual 145, 3) := by decide +kernel
theorem dX11_shown_62 : decode cX11_shown 62 = .ok (.ireturn, 1) := by decide +kernel
theorem dX11_shown_63 : decode cX11_shown 63 = .ok (.aload_n 0, 1) := by decide +kernel
theorem dX11_shown_64 : decode cX11_shown 64 = .ok (.getfield 25, 3) := by decide +kernel
theorem dX11_shown_67 : decode cX11_shown 67 = .ok (.iload_n 1, 1) := by decide +kernel
theorem dX11_shown_68 : decode cX11_shown 68 = .ok (.invokevirtual 136, 3) := by decide +kernel
theorem dX11_shown_71 : decode cX11_shown 71 = .ok (.ireturn, 1) := by decide +kernel
theorem dX11_shown_72 : decode cX11_shown 72 = .ok (.aload_n 0, 1) := by decide +kernel
theorem dX11_shown_73 : decode cX11_shown 73 = .ok (.getfield 25, 3) := by decide +kernel
theorem dX11_shown_76 : decode cX11_shown 76 = .ok (.iload_n 1, 1) := by decide +kernel
theorem dX11_shown_77 : decode cX11_shown 77 = .ok (.invokevirtual 148, 3) := by decide +kernel
theorem dX11_shown_80 : decode cX11_shown 80 = .ok (.ifCond .eq 7, 3) := by decide +kernel
theorem dX11_shown_83 : decode cX11_shown 83 = .ok (.iconst 1, 1) := by decide +kernel
theorem dX11_shown_84 : decode cX11_shown 84 = .ok (.goto 4, 3) := by decide +kernel
theorem dX11_shown_87 : decode cX11_shown 87 = .ok (.iconst 0, 1) := by decide +kernel
theorem dX11_shown_88 : decode cX11_shown 88 = .ok (.ireturn, 1) := by decide +kernel
theorem dX11_shown_89 : decode cX11_shown 89 = .ok (.ldc 55, 2) := by decide +kernel
theorem dX11_shown_91 : decode cX11_shown 91 = .ok (.ireturn, 1) := by decide +kernel
theorem dX11_heavy_0 : decode cX11_heavy 0 = .ok (.aload_n 0, 1) := by decide +kernel
theorem dX11_heavy_1 : decode cX11_heavy 1 = .ok (.getfield 25, 3) := by decide +kernel
theorem dX11_heavy_4 : decode cX11_heavy 4 = .ok (.iload_n 1, 1) := by decide +kernel
theorem dX11_heavy_5 : decode cX11_heavy 5 = .ok (.invokevirtual 151, 3) := by decide +kernel
theorem dX11_heavy_8 : decode cX11_heavy 8 = .ok (.astore_n 3, 1) := by decide +kernel
theorem dX11_heavy_9 : decode cX11_heavy 9 = .ok (.aload_n 3, 1) := by decide +kernel
theorem dX11_heavy_10 : decode cX11_heavy 10 = .ok (.ifnull 14, 3) := by decide +kernel
theorem dX11_heavy_13 : decode cX11_heavy 13 = .ok (.iload_n 2, 1) := by decide +kernel
theorem dX11_heavy_14 : decode cX11_heavy 14 = .ok (.iconst (-1), 1) := by decide +kernel
theorem dX11_heavy_15 : decode cX11_heavy 15 = .ok (.if_icmp .lt 9, 3) := by decide +kernel
theorem dX11_heavy_18 : decode cX11_heavy 18 = .ok (.iload_n 2, 1) := by decide +kernel
theorem dX11_heavy_19 : decode cX11_heavy 19 = .ok (.bipush 99, 2) := by decide +kernel
theorem dX11_heavy_21 : decode cX11_heavy 21 = .ok (.if_icmp .le 6, 3) := by decide +kernel
theorem dX11_heavy_24 : decode cX11_heavy 24 = .ok (.ldc 55, 2) := by decide +kernel
theorem dX11_heavy_26 : decode cX11_heavy 26 = .ok (.ireturn, 1) := by decide +kernel
theorem dX11_heavy_27 : decode cX11_heavy 27 = .ok (.iload_n 2, 1) := by decide +kernel
theorem dX11_heavy_28 : decode cX11_heavy 28 = .ok (.ifCond .ge 10, 3) := by decide +kernel
theorem dX11_heavy_31 : decode cX11_heavy 31 = .ok (.aload_n 3, 1) := by decide +kernel
theorem dX11_heavy_32 : decode cX11_heavy 32 = .ok (.getfield 155, 3) := by decide +kernel
theorem dX11_heavy_35 : decode cX11_heavy 35 = .ok (.goto 12, 3) := by decide +kernel
theorem dX11_heavy_38 : decode cX11_heavy 38 = .ok (.aload_n 3, 1) := by decide +kernel
theorem dX11_heavy_39 : decode cX11_heavy 39 = .ok (.aload_n 3, 1) := by decide +kernel
theorem dX11_heavy_40 : decode cX11_heavy 40 = .ok (.getfield 155, 3) := by decide +kernel
theorem dX11_heavy_43 : decode cX11_heavy 43 = .ok (.iload_n 2, 1) := by decide +kernel
theorem dX11_heavy_44 : decode cX11_heavy 44 = .ok (.invokevirtual 160, 3) := by decide +kernel
theorem dX11_heavy_47 : decode cX11_heavy 47 = .ok (.ireturn, 1) := by decide +kernel
theorem dX11_next_0 : decode cX11_next 0 = .ok (.aload_n 0, 1) := by decide +kernel
theorem dX11_next_1 : decode cX11_next 1 = .ok (.getfield 25, 3) := by decide +kernel
theorem dX11_next_4 : decode cX11_next 4 = .ok (.getfield 127, 3) := by decide +kernel
theorem dX11_next_7 : decode cX11_next 7 = .ok (.ifCond .ne 6, 3) := by decide +kernel
theorem dX11_next_10 : decode cX11_next 10 = .ok (.ldc 128, 2) := by decide +kernel
theorem dX11_next_12 : decode cX11_next 12 = .ok (.ireturn, 1) := by decide +kernel
theorem dX11_next_13 : decode cX11_next 13 = .ok (.aload_n 0, 1) := by decide +kernel
theorem dX11_next_14 : decode cX11_next 14 = .ok (.getfield 25, 3) := by decide +kernel
theorem dX11_next_17 : decode cX11_next 17 = .ok (.iload_n 1, 1) := by decide +kernel
theorem dX11_next_18 : decode cX11_next 18 = .ok (.invokevirtual 129, 3) := by decide +kernel
theorem dX11_next_21 : decode cX11_next 21 = .ok (.ifCond .ne 6, 3) := by decide +kernel
theorem dX11_next_24 : decode cX11_next 24 = .ok (.ldc 55, 2) := by decide +kernel
theorem dX11_next_26 : decode cX11_next 26 = .ok (.ireturn, 1) := by decide +kernel
theorem dX11_next_27 : decode cX11_next 27 = .ok (.aload_n 0, 1) := by decide +kernel
theorem dX11_next_28 : decode cX11_next 28 = .ok (.getfield 25, 3) := by decide +kernel
theorem dX11_next_31 : decode cX11_next 31 = .ok (.getfield 142, 3) := by decide +kernel
theorem dX11_next_34 : decode cX11_next 34 = .ok (.aload_n 0, 1) := by decide +kernel
theorem dX11_next_35 : decode cX11_next 35 = .ok (.getfield 25, 3) := by decide +kernel
theorem dX11_next_38 : decode cX11_next 38 = .ok (.getfield 124, 3) := by decide +kernel
theorem dX11_next_41 : decode cX11_next 41 = .ok (.iload_n 1, 1) := by decide +kernel
theorem dX11_next_42 : decode cX11_next 42 = .ok (.iastore, 1) := by decide +kernel
theorem dX11_next_43 : decode cX11_next 43 = .ok (.aload_n 0, 1) := by decide +kernel
theorem dX11_next_44 : decode cX11_next 44 = .ok (.getfield 25, 3) := by decide +kernel
theorem dX11_next_47 : decode cX11_next 47 = .ok (.aload_n 0, 1) := by decide +kernel
theorem dX11_next_48 : decode cX11_next 48 = .ok (.getfield 25, 3) := by decide +kernel
theorem dX11_next_51 : decode cX11_next 51 = .ok (.getfield 124, 3) := by decide +kernel
theorem dX11_next_54 : decode cX11_next 54 = .ok (.invokevirtual 136, 3) := by decide +kernel
theorem dX11_next_57 : decode cX11_next 57 = .ok (.ireturn, 1) := by decide +kernel
theorem dX11_fits_0 : decode cX11_fits 0 = .ok (.iload_n 2, 1) := by decide +kernel
theorem dX11_fits_1 : decode cX11_fits 1 = .ok (.iconst (-1), 1) := by decide +kernel
theorem dX11_fits_2 : decode cX11_fits 2 = .ok (.if_icmp .ne 7, 3) := by decide +kernel
theorem dX11_fits_5 : decode cX11_fits 5 = .ok (.iconst 1, 1) := by decide +kernel
theorem dX11_fits_6 : decode cX11_fits 6 = .ok (.goto 4, 3) := by decide +kernel
theorem dX11_fits_9 : decode cX11_fits 9 = .ok (.iconst 0, 1) := by decide +kernel
theorem dX11_fits_10 : decode cX11_fits 10 = .ok (.istore 4, 2) := by decide +kernel
theorem dX11_fits_12 : decode cX11_fits 12 = .ok (.iload 4, 2) := by decide +kernel
theorem dX11_fits_14 : decode cX11_fits 14 = .ok (.ifCond .ne 18, 3) := by decide +kernel
theorem dX11_fits_17 : decode cX11_fits 17 = .ok (.aload_n 0, 1) := by decide +kernel
theorem dX11_fits_18 : decode cX11_fits 18 = .ok (.getfield 25, 3) := by decide +kernel
theorem dX11_fits_21 : decode cX11_fits 21 = .ok (.iload_n 2, 1) := by decide +kernel
theorem dX11_fits_22 : decode cX11_fits 22 = .ok (.invokevirtual 151, 3) := by decide +kernel
theorem dX11_fits_25 : decode cX11_fits 25 = .ok (.ifnonnull 7, 3) := by decide +kernel
theorem dX11_fits_28 : decode cX11_fits 28 = .ok (.iconst 1, 1) := by decide +kernel
theorem dX11_fits_29 : decode cX11_fits 29 = .ok (.goto 4, 3) := by decide +kernel
theorem dX11_fits_32 : decode cX11_fits 32 = .ok (.iconst 0, 1) := by decide +kernel
theorem dX11_fits_33 : decode cX11_fits 33 = .ok (.istore 5, 2) := by decide +kernel
theorem dX11_fits_35 : decode cX11_fits 35 = .ok (.aload_n 0, 1) := by decide +kernel
theorem dX11_fits_36 : decode cX11_fits 36 = .ok (.iload_n 1, 1) := by decide +kernel
theorem dX11_fits_37 : decode cX11_fits 37 = .ok (.iload 5, 2) := by decide +kernel
theorem dX11_fits_39 : decode cX11_fits 39 = .ok (.ifCond .ne 13, 3) := by decide +kernel
theorem dX11_fits_42 : decode cX11_fits 42 = .ok (.iload_n 3, 1) := by decide +kernel
theorem dX11_fits_43 : decode cX11_fits 43 = .ok (.ifCond .lt 9, 3) := by decide +kernel
theorem dX11_fits_46 : decode cX11_fits 46 = .ok (.iload_n 3, 1) := by decide +kernel
theorem dX11_fits_47 : decode cX11_fits 47 = .ok (.bipush 7, 2) := by decide +kernel
theorem dX11_fits_49 : decode cX11_fits 49 = .ok (.if_icmp .le 7, 3) := by decide +kernel
theorem dX11_fits_52 : decode cX11_fits 52 = .ok (.iconst 1, 1) := by decide +kernel
theorem dX11_fits_53 : decode cX11_fits 53 = .ok (.goto 4, 3) := by decide +kernel
theorem dX11_fits_56 : decode cX11_fits 56 = .ok (.iconst 0, 1) := by decide +kernel
theorem dX11_fits_57 : decode cX11_fits 57 = .ok (.invokevirtual 164, 3) := by decide +kernel
theorem dX11_fits_60 : decode cX11_fits 60 = .ok (.istore 6, 2) := by decide +kernel
theorem dX11_fits_62 : decode cX11_fits 62 = .ok (.iload 6, 2) := by decide +kernel
theorem dX11_fits_64 : decode cX11_fits 64 = .ok (.ifCond .eq 6, 3) := by decide +kernel
theorem dX11_fits_67 : decode cX11_fits 67 = .ok (.iload 6, 2) := by decide +kernel
theorem dX11_fits_69 : decode cX11_fits 69 = .ok (.ireturn, 1) := by decide +kernel
theorem dX11_fits_70 : decode cX11_fits 70 = .ok (.aload_n 0, 1) := by decide +kernel
theorem dX11_fits_71 : decode cX11_fits 71 = .ok (.getfield 39, 3) := by decide +kernel
theorem dX11_fits_74 : decode cX11_fits 74 = .ok (.aload_n 0, 1) := by decide +kernel
theorem dX11_fits_75 : decode cX11_fits 75 = .ok (.getfield 25, 3) := by decide +kernel
theorem dX11_fits_78 : decode cX11_fits 78 = .ok (.aload_n 0, 1) := by decide +kernel
theorem dX11_fits_79 : decode cX11_fits 79 = .ok (.getfield 11, 3) := by decide +kernel
theorem dX11_fits_82 : decode cX11_fits 82 = .ok (.iload_n 1, 1) := by decide +kernel
theorem dX11_fits_83 : decode cX11_fits 83 = .ok (.aaload, 1) := by decide +kernel
theorem dX11_fits_84 : decode cX11_fits 84 = .ok (.getfield 75, 3) := by decide +kernel
theorem dX11_fits_87 : decode cX11_fits 87 = .ok (.invokevirtual 168, 3) := by decide +kernel
theorem dX11_fits_90 : decode cX11_fits 90 = .ok (.aload_n 0, 1) := by decide +kernel
theorem dX11_fits_91 : decode cX11_fits 91 = .ok (.iload 4, 2) := by decide +kernel
theorem dX11_fits_93 : decode cX11_fits 93 = .ok (.ifCond .eq 13, 3) := by decide +kernel
theorem dX11_fits_96 : decode cX11_fits 96 = .ok (.aload_n 0, 1) := by decide +kernel
theorem dX11_fits_97 : decode cX11_fits 97 = .ok (.getfield 39, 3) := by decide +kernel
theorem dX11_fits_100 : decode cX11_fits 100 = .ok (.invokevirtual 171, 3) := by decide +kernel
theorem dX11_fits_103 : decode cX11_fits 103 = .ok (.goto 12, 3) := by decide +kernel
theorem dX11_fits_106 : decode cX11_fits 106 = .ok (.aload_n 0, 1) := by decide +kernel
theorem dX11_fits_107 : decode cX11_fits 107 = .ok (.getfield 39, 3) := by decide +kernel
theorem dX11_fits_110 : decode cX11_fits 110 = .ok (.iload_n 2, 1) := by decide +kernel
theorem dX11_fits_111 : decode cX11_fits 111 = .ok (.iload_n 3, 1) := by decide +kernel
theorem dX11_fits_112 : decode cX11_fits 112 = .ok (.invokevirtual 175, 3) := by decide +kernel
theorem dX11_fits_115 : decode cX11_fits 115 = .ok (.invokevirtual 64, 3) := by decide +kernel
theorem dX11_fits_118 : decode cX11_fits 118 = .ok (.ireturn, 1) := by decide +kernel
theorem dX11_sure_0 : decode cX11_sure 0 = .ok (.aload_n 0, 1) := by decide +kernel
theorem dX11_sure_1 : decode cX11_sure 1 = .ok (.iload_n 1, 1) := by decide +kernel
theorem dX11_sure_2 : decode cX11_sure 2 = .ok (.aload_n 0, 1) := by decide +kernel
theorem dX11_sure_3 : decode cX11_sure 3 = .ok (.getfield 25, 3) := by decide +kernel
theorem dX11_sure_6 : decode cX11_sure 6 = .ok (.iload_n 2, 1) := by decide +kernel
theorem dX11_sure_7 : decode cX11_sure 7 = .ok (.invokevirtual 151, 3) := by decide +kernel
theorem dX11_sure_10 : decode cX11_sure 10 = .ok (.ifnonnull 7, 3) := by decide +kernel
theorem dX11_sure_13 : decode cX11_sure 13 = .ok (.iconst 1, 1) := by decide +kernel
theorem dX11_sure_14 : decode cX11_sure 14 = .ok (.goto 4, 3) := by decide +kernel
theorem dX11_sure_17 : decode cX11_sure 17 = .ok (.iconst 0, 1) := by decide +kernel
theorem dX11_sure_18 : decode cX11_sure 18 = .ok (.invokevirtual 164, 3) := by decide +kernel
theorem dX11_sure_21 : decode cX11_sure 21 = .ok (.istore_n 3, 1) := by decide +kernel
theorem dX11_sure_22 : decode cX11_sure 22 = .ok (.iload_n 3, 1) := by decide +kernel
theorem dX11_sure_23 : decode cX11_sure 23 = .ok (.ifCond .eq 5, 3) := by decide +kernel
theorem dX11_sure_26 : decode cX11_sure 26 = .ok (.iload_n 3, 1) := by decide +kernel
theorem dX11_sure_27 : decode cX11_sure 27 = .ok (.ireturn, 1) := by decide +kernel
theorem dX11_sure_28 : decode cX11_sure 28 = .ok (.aload_n 0, 1) := by decide +kernel
theorem dX11_sure_29 : decode cX11_sure 29 = .ok (.getfield 39, 3) := by decide +kernel
theorem dX11_sure_32 : decode cX11_sure 32 = .ok (.aload_n 0, 1) := by decide +kernel
theorem dX11_sure_33 : decode cX11_sure 33 = .ok (.getfield 25, 3) := by decide +kernel
theorem dX11_sure_36 : decode cX11_sure 36 = .ok (.aload_n 0, 1) := by decide +kernel
theorem dX11_sure_37 : decode cX11_sure 37 = .ok (.getfield 11, 3) := by decide +kernel
theorem dX11_sure_40 : decode cX11_sure 40 = .ok (.iload_n 1, 1) := by decide +kernel
theorem dX11_sure_41 : decode cX11_sure 41 = .ok (.aaload, 1) := by decide +kernel
theorem dX11_sure_42 : decode cX11_sure 42 = .ok (.getfield 75, 3) := by decide +kernel
theorem dX11_sure_45 : decode cX11_sure 45 = .ok (.invokevirtual 168, 3) := by decide +kernel
theorem dX11_sure_48 : decode cX11_sure 48 = .ok (.aload_n 0, 1) := by decide +kernel
theorem dX11_sure_49 : decode cX11_sure 49 = .ok (.aload_n 0, 1) := by decide +kernel
theorem dX11_sure_50 : decode cX11_sure 50 = .ok (.getfield 39, 3) := by decide +kernel
theorem dX11_sure_53 : decode cX11_sure 53 = .ok (.iload_n 2, 1) := by decide +kernel
theorem dX11_sure_54 : decode cX11_sure 54 = .ok (.invokevirtual 178, 3) := by decide +kernel
theorem dX11_sure_57 : decode cX11_sure 57 = .ok (.invokevirtual 64, 3) := by decide +kernel
theorem dX11_sure_60 : decode cX11_sure 60 = .ok (.ireturn, 1) := by decide +kernel
theorem dX11_gap_0 : decode cX11_gap 0 = .ok (.aload_n 0, 1) := by decide +kernel
theorem dX11_gap_1 : decode cX11_gap 1 = .ok (.iload_n 1, 1) := by decide +kernel
theorem dX11_gap_2 : decode cX11_gap 2 = .ok (.aload_n 0, 1) := by decide +kernel
theorem dX11_gap_3 : decode cX11_gap 3 = .ok (.getfield 25, 3) := by decide +kernel
theorem dX11_gap_6 : decode cX11_gap 6 = .ok (.iload_n 2, 1) := by decide +kernel
theorem dX11_gap_7 : decode cX11_gap 7 = .ok (.invokevirtual 139, 3) := by decide +kernel
theorem dX11_gap_10 : decode cX11_gap 10 = .ok (.ifCond .ne 7, 3) := by decide +kernel
theorem dX11_gap_13 : decode cX11_gap 13 = .ok (.iconst 1, 1) := by decide +kernel
theorem dX11_gap_14 : decode cX11_gap 14 = .ok (.goto 4, 3) := by decide +kernel
theorem dX11_gap_17 : decode cX11_gap 17 = .ok (.iconst 0, 1) := by decide +kernel
theorem dX11_gap_18 : decode cX11_gap 18 = .ok (.invokevirtual 164, 3) := by decide +kernel
theorem dX11_gap_21 : decode cX11_gap 21 = .ok (.istore_n 3, 1) := by decide +kernel
theorem dX11_gap_22 : decode cX11_gap 22 = .ok (.iload_n 3, 1) := by decide +kernel
theorem dX11_gap_23 : decode cX11_gap 23 = .ok (.ifCond .eq 5, 3) := by decide +kernel
theorem dX11_gap_26 : decode cX11_gap 26 = .ok (.iload_n 3, 1) := by decide +kernel
theorem dX11_gap_27 : decode cX11_gap 27 = .ok (.ireturn, 1) := by decide +kernel
theorem dX11_gap_28 : decode cX11_gap 28 = .ok (.aload_n 0, 1) := by decide +kernel
theorem dX11_gap_29 : decode cX11_gap 29 = .ok (.getfield 39, 3) := by decide +kernel
theorem dX11_gap_32 : decode cX11_gap 32 = .ok (.aload_n 0, 1) := by decide +kernel
theorem dX11_gap_33 : decode cX11_gap 33 = .ok (.getfield 25, 3) := by decide +kernel
theorem dX11_gap_36 : decode cX11_gap 36 = .ok (.aload_n 0, 1) := by decide +kernel
theorem dX11_gap_37 : decode cX11_gap 37 = .ok (.getfield 11, 3) := by decide +kernel
theorem dX11_gap_40 : decode cX11_gap 40 = .ok (.iload_n 1, 1) := by decide +kernel
theorem dX11_gap_41 : decode cX11_gap 41 = .ok (.aaload, 1) := by decide +kernel
theorem dX11_gap_42 : decode cX11_gap 42 = .ok (.getfield 75, 3) := by decide +kernel
theorem dX11_gap_45 : decode cX11_gap 45 = .ok (.invokevirtual 168, 3) := by decide +kernel
theorem dX11_gap_48 : decode cX11_gap 48 = .ok (.aload_n 0, 1) := by decide +kernel
theorem dX11_gap_49 : decode cX11_gap 49 = .ok (.aload_n 0, 1) := by decide +kernel
theorem dX11_gap_50 : decode cX11_gap 50 = .ok (.getfield 39, 3) := by decide +kernel
theorem dX11_gap_53 : decode cX11_gap 53 = .ok (.iload_n 2, 1) := by decide +kernel
theorem dX11_gap_54 : decode cX11_gap 54 = .ok (.invokevirtual 181, 3) := by decide +kernel
theorem dX11_gap_57 : decode cX11_gap 57 = .ok (.invokevirtual 64, 3) := by decide +kernel
theorem dX11_gap_60 : decode cX11_gap 60 = .ok (.ireturn, 1) := by decide +kernel
theorem dX11_wrong_0 : decode cX11_wrong 0 = .ok (.aload_n 0, 1) := by decide +kernel
theorem dX11_wrong_1 : decode cX11_wrong 1 = .ok (.iload_n 1, 1) := by decide +kernel
theorem dX11_wrong_2 : decode cX11_wrong 2 = .ok (.iload_n 2, 1) := by decide +kernel
theorem dX11_wrong_3 : decode cX11_wrong 3 = .ok (.ifCond .lt 8, 3) := by decide +kernel
theorem dX11_wrong_6 : decode cX11_wrong 6 = .ok (.iload_n 2, 1) := by decide +kernel
theorem dX11_wrong_7 : decode cX11_wrong 7 = .ok (.iconst 1, 1) := by decide +kernel
theorem dX11_wrong_8 : decode cX11_wrong 8 = .ok (.if_icmp .le 7, 3) := by decide +kernel
theorem dX11_wrong_11 : decode cX11_wrong 11 = .ok (.iconst 1, 1) := by decide +kernel
theorem dX11_wrong_12 : decode cX11_wrong 12 = .ok (.goto 4, 3) := by decide +kernel
theorem dX11_wrong_15 : decode cX11_wrong 15 = .ok (.iconst 0, 1) := by decide +kernel
theorem dX11_wrong_16 : decode cX11_wrong 16 = .ok (.invokevirtual 164, 3) := by decide +kernel
theorem dX11_wrong_19 : decode cX11_wrong 19 = .ok (.istore_n 3, 1) := by decide +kernel
theorem dX11_wrong_20 : decode cX11_wrong 20 = .ok (.iload_n 3, 1) := by decide +kernel
theorem dX11_wrong_21 : decode cX11_wrong 21 = .ok (.ifCond .eq 5, 3) := by decide +kernel
theorem dX11_wrong_24 : decode cX11_wrong 24 = .ok (.iload_n 3, 1) := by decide +kernel
theorem dX11_wrong_25 : decode cX11_wrong 25 = .ok (.ireturn, 1) := by decide +kernel
theorem dX11_wrong_26 : decode cX11_wrong 26 = .ok (.aload_n 0, 1) := by decide +kernel
theorem dX11_wrong_27 : decode cX11_wrong 27 = .ok (.getfield 39, 3) := by decide +kernel
theorem dX11_wrong_30 : decode cX11_wrong 30 = .ok (.aload_n 0, 1) := by decide +kernel
theorem dX11_wrong_31 : decode cX11_wrong 31 = .ok (.getfield 25, 3) := by decide +kernel
theorem dX11_wrong_34 : decode cX11_wrong 34 = .ok (.aload_n 0, 1) := by decide +kernel
theorem dX11_wrong_35 : decode cX11_wrong 35 = .ok (.getfield 11, 3) := by decide +kernel
theorem dX11_wrong_38 : decode cX11_wrong 38 = .ok (.iload_n 1, 1) := by decide +kernel
theorem dX11_wrong_39 : decode cX11_wrong 39 = .ok (.aaload, 1) := by decide +kernel
theorem dX11_wrong_40 : decode cX11_wrong 40 = .ok (.getfield 75, 3) := by decide +kernel
theorem dX11_wrong_43 : decode cX11_wrong 43 = .ok (.invokevirtual 168, 3) := by decide +kernel
theorem dX11_wrong_46 : decode cX11_wrong 46 = .ok (.aload_n 0, 1) := by decide +kernel
theorem dX11_wrong_47 : decode cX11_wrong 47 = .ok (.getfield 39, 3) := by decide +kernel
theorem dX11_wrong_50 : decode cX11_wrong 50 = .ok (.invokevirtual 184, 3) := by decide +kernel
theorem dX11_wrong_53 : decode cX11_wrong 53 = .ok (.istore 4, 2) := by decide +kernel
theorem dX11_wrong_55 : decode cX11_wrong 55 = .ok (.aload_n 0, 1) := by decide +kernel
theorem dX11_wrong_56 : decode cX11_wrong 56 = .ok (.iload_n 2, 1) := by decide +kernel
theorem dX11_wrong_57 : decode cX11_wrong 57 = .ok (.ifCond .ne 11, 3) := by decide +kernel
theorem dX11_wrong_60 : decode cX11_wrong 60 = .ok (.iload 4, 2) := by decide +kernel
theorem dX11_wrong_62 : decode cX11_wrong 62 = .ok (.invokestatic 187, 3) := by decide +kernel
theorem dX11_wrong_65 : decode cX11_wrong 65 = .ok (.goto 5, 3) := by decide +kernel
theorem dX11_wrong_68 : decode cX11_wrong 68 = .ok (.iload 4, 2) := by decide +kernel
theorem dX11_wrong_70 : decode cX11_wrong 70 = .ok (.invokevirtual 64, 3) := by decide +kernel
theorem dX11_wrong_73 : decode cX11_wrong 73 = .ok (.ireturn, 1) := by decide +kernel
theorem dX11_soon_0 : decode cX11_soon 0 = .ok (.aload_n 0, 1) := by decide +kernel
theorem dX11_soon_1 : decode cX11_soon 1 = .ok (.getfield 25, 3) := by decide +kernel
theorem dX11_soon_4 : decode cX11_soon 4 = .ok (.getfield 127, 3) := by decide +kernel
theorem dX11_soon_7 : decode cX11_soon 7 = .ok (.ifCond .ne 6, 3) := by decide +kernel
theorem dX11_soon_10 : decode cX11_soon 10 = .ok (.ldc 128, 2) := by decide +kernel
theorem dX11_soon_12 : decode cX11_soon 12 = .ok (.ireturn, 1) := by decide +kernel
theorem dX11_soon_13 : decode cX11_soon 13 = .ok (.iload_n 1, 1) := by decide +kernel
theorem dX11_soon_14 : decode cX11_soon 14 = .ok (.iconst (-1), 1) := by decide +kernel
theorem dX11_soon_15 : decode cX11_soon 15 = .ok (.if_icmp .ge 6, 3) := by decide +kernel
theorem dX11_soon_18 : decode cX11_soon 18 = .ok (.ldc 55, 2) := by decide +kernel
theorem dX11_soon_20 : decode cX11_soon 20 = .ok (.ireturn, 1) := by decide +kernel
theorem dX11_soon_21 : decode cX11_soon 21 = .ok (.aload_n 0, 1) := by decide +kernel
theorem dX11_soon_22 : decode cX11_soon 22 = .ok (.getfield 39, 3) := by decide +kernel
theorem dX11_soon_25 : decode cX11_soon 25 = .ok (.aload_n 0, 1) := by decide +kernel
theorem dX11_soon_26 : decode cX11_soon 26 = .ok (.getfield 25, 3) := by decide +kernel
theorem dX11_soon_29 : decode cX11_soon 29 = .ok (.invokevirtual 192, 3) := by decide +kernel
theorem dX11_soon_32 : decode cX11_soon 32 = .ok (.iload_n 1, 1) := by decide +kernel
theorem dX11_soon_33 : decode cX11_soon 33 = .ok (.ifCond .ge 13, 3) := by decide +kernel
theorem dX11_soon_36 : decode cX11_soon 36 = .ok (.aload_n 0, 1) := by decide +kernel
theorem dX11_soon_37 : decode cX11_soon 37 = .ok (.getfield 39, 3) := by decide +kernel
theorem dX11_soon_40 : decode cX11_soon 40 = .ok (.getfield 195, 3) := by decide +kernel
theorem dX11_soon_43 : decode cX11_soon 43 = .ok (.goto 11, 3) := by decide +kernel
theorem dX11_soon_46 : decode cX11_soon 46 = .ok (.aload_n 0, 1) := by decide +kernel
theorem dX11_soon_47 : decode cX11_soon 47 = .ok (.getfield 39, 3) := by decide +kernel
theorem dX11_soon_50 : decode cX11_soon 50 = .ok (.iload_n 1, 1) := by decide +kernel
theorem dX11_soon_51 : decode cX11_soon 51 = .ok (.invokevirtual 198, 3) := by decide +kernel
theorem dX11_soon_54 : decode cX11_soon 54 = .ok (.ireturn, 1) := by decide +kernel
theorem dX11_laws_0 : decode cX11_laws 0 = .ok (.aload_n 0, 1) := by decide +kernel
theorem dX11_laws_1 : decode cX11_laws 1 = .ok (.iload_n 1, 1) := by decide +kernel
theorem dX11_laws_2 : decode cX11_laws 2 = .ok (.iconst 0, 1) := by decide +kernel
theorem dX11_laws_3 : decode cX11_laws 3 = .ok (.invokevirtual 164, 3) := by decide +kernel
theorem dX11_laws_6 : decode cX11_laws 6 = .ok (.istore_n 2, 1) := by decide +kernel
theorem dX11_laws_7 : decode cX11_laws 7 = .ok (.iload_n 2, 1) := by decide +kernel
theorem dX11_laws_8 : decode cX11_laws 8 = .ok (.ifCond .eq 7, 3) := by decide +kernel
theorem dX11_laws_11 : decode cX11_laws 11 = .ok (.iload_n 2, 1) := by decide +kernel
theorem dX11_laws_12 : decode cX11_laws 12 = .ok (.goto 23, 3) := by decide +kernel
theorem dX11_laws_15 : decode cX11_laws 15 = .ok (.aload_n 0, 1) := by decide +kernel
theorem dX11_laws_16 : decode cX11_laws 16 = .ok (.aload_n 0, 1) := by decide +kernel
theorem dX11_laws_17 : decode cX11_laws 17 = .ok (.getfield 25, 3) := by decide +kernel
theorem dX11_laws_20 : decode cX11_laws 20 = .ok (.aload_n 0, 1) := by decide +kernel
theorem dX11_laws_21 : decode cX11_laws 21 = .ok (.getfield 11, 3) := by decide +kernel
theorem dX11_laws_24 : decode cX11_laws 24 = .ok (.iload_n 1, 1) := by decide +kernel
theorem dX11_laws_25 : decode cX11_laws 25 = .ok (.aaload, 1) := by decide +kernel
theorem dX11_laws_26 : decode cX11_laws 26 = .ok (.getfield 75, 3) := by decide +kernel
theorem dX11_laws_29 : decode cX11_laws 29 = .ok (.invokevirtual 201, 3) := by decide +kernel
theorem dX11_laws_32 : decode cX11_laws 32 = .ok (.invokevirtual 64, 3) := by decide +kernel
theorem dX11_laws_35 : decode cX11_laws 35 = .ok (.ireturn, 1) := by decide +kernel
theorem dX11_error_0 : decode cX11_error 0 = .ok (.aload_n 0, 1) := by decide +kernel
theorem dX11_error_1 : decode cX11_error 1 = .ok (.getfield 25, 3) := by decide +kernel
theorem dX11_error_4 : decode cX11_error 4 = .ok (.iload_n 1, 1) := by decide +kernel
theorem dX11_error_5 : decode cX11_error 5 = .ok (.invokevirtual 139, 3) := by decide +kernel
theorem dX11_error_8 : decode cX11_error 8 = .ok (.ifCond .eq 14, 3) := by decide +kernel
theorem dX11_error_11 : decode cX11_error 11 = .ok (.aload_n 0, 1) := by decide +kernel
theorem dX11_error_12 : decode cX11_error 12 = .ok (.getfield 25, 3) := by decide +kernel
theorem dX11_error_15 : decode cX11_error 15 = .ok (.iload_n 1, 1) := by decide +kernel
theorem dX11_error_16 : decode cX11_error 16 = .ok (.invokevirtual 205, 3) := by decide +kernel
theorem dX11_error_19 : decode cX11_error 19 = .ok (.goto 5, 3) := by decide +kernel
theorem dX11_error_22 : decode cX11_error 22 = .ok (.ldc 55, 2) := by decide +kernel
theorem dX11_error_24 : decode cX11_error 24 = .ok (.ireturn, 1) := by decide +kernel
theorem dX11_sold_0 : decode cX11_sold 0 = .ok (.aload_n 0, 1) := by decide +kernel
theorem dX11_sold_1 : decode cX11_sold 1 = .ok (.getfield 25, 3) := by decide +kernel
theorem dX11_sold_4 : decode cX11_sold 4 = .ok (.iload_n 1, 1) := by decide +kernel
theorem dX11_sold_5 : decode cX11_sold 5 = .ok (.invokevirtual 151, 3) := by decide +kernel
theorem dX11_sold_8 : decode cX11_sold 8 = .ok (.astore_n 3, 1) := by decide +kernel
theorem dX11_sold_9 : decode cX11_sold 9 = .ok (.aload_n 3, 1) := by decide +kernel
theorem dX11_sold_10 : decode cX11_sold 10 = .ok (.ifnull 31, 3) := by decide +kernel
theorem dX11_sold_13 : decode cX11_sold 13 = .ok (.iload_n 2, 1) := by decide +kernel
theorem dX11_sold_14 : decode cX11_sold 14 = .ok (.iconst 1, 1) := by decide +kernel
theorem dX11_sold_15 : decode cX11_sold 15 = .ok (.if_icmp .lt 26, 3) := by decide +kernel
theorem dX11_sold_18 : decode cX11_sold 18 = .ok (.aload_n 0, 1) := by decide +kernel
theorem dX11_sold_19 : decode cX11_sold 19 = .ok (.getfield 25, 3) := by decide +kernel
theorem dX11_sold_22 : decode cX11_sold 22 = .ok (.iload_n 2, 1) := by decide +kernel
theorem dX11_sold_23 : decode cX11_sold 23 = .ok (.invokevirtual 139, 3) := by decide +kernel
theorem dX11_sold_26 : decode cX11_sold 26 = .ok (.ifCond .eq 15, 3) := by decide +kernel
theorem dX11_sold_29 : decode cX11_sold 29 = .ok (.aload_n 0, 1) := by decide +kernel
theorem dX11_sold_30 : decode cX11_sold 30 = .ok (.getfield 25, 3) := by decide +kernel
theorem dX11_sold_33 : decode cX11_sold 33 = .ok (.iload_n 1, 1) := by decide +kernel
theorem dX11_sold_34 : decode cX11_sold 34 = .ok (.iload_n 2, 1) := by decide +kernel
theorem dX11_sold_35 : decode cX11_sold 35 = .ok (.invokevirtual 208, 3) := by decide +kernel
theorem dX11_sold_38 : decode cX11_sold 38 = .ok (.ifCond .ne 6, 3) := by decide +kernel
theorem dX11_sold_41 : decode cX11_sold 41 = .ok (.ldc 55, 2) := by decide +kernel
theorem dX11_sold_43 : decode cX11_sold 43 = .ok (.ireturn, 1) := by decide +kernel
theorem dX11_sold_44 : decode cX11_sold 44 = .ok (.aload_n 0, 1) := by decide +kernel
theorem dX11_sold_45 : decode cX11_sold 45 = .ok (.getfield 25, 3) := by decide +kernel
theorem dX11_sold_48 : decode cX11_sold 48 = .ok (.iload_n 2, 1) := by decide +kernel
theorem dX11_sold_49 : decode cX11_sold 49 = .ok (.invokevirtual 136, 3) := by decide +kernel
theorem dX11_sold_52 : decode cX11_sold 52 = .ok (.aload_n 0, 1) := by decide +kernel
theorem dX11_sold_53 : decode cX11_sold 53 = .ok (.getfield 25, 3) := by decide +kernel
theorem dX11_sold_56 : decode cX11_sold 56 = .ok (.iload_n 2, 1) := by decide +kernel
theorem dX11_sold_57 : decode cX11_sold 57 = .ok (.iconst 1, 1) := by decide +kernel
theorem dX11_sold_58 : decode cX11_sold 58 = .ok (.isub, 1) := by decide +kernel
theorem dX11_sold_59 : decode cX11_sold 59 = .ok (.invokevirtual 136, 3) := by decide +kernel
theorem dX11_sold_62 : decode cX11_sold 62 = .ok (.isub, 1) := by decide +kernel
theorem dX11_sold_63 : decode cX11_sold 63 = .ok (.istore 4, 2) := by decide +kernel
theorem dX11_sold_65 : decode cX11_sold 65 = .ok (.iload 4, 2) := by decide +kernel
theorem dX11_sold_67 : decode cX11_sold 67 = .ok (.aload_n 3, 1) := by decide +kernel
theorem dX11_sold_68 : decode cX11_sold 68 = .ok (.aload_n 3, 1) := by decide +kernel
theorem dX11_sold_69 : decode cX11_sold 69 = .ok (.getfield 155, 3) := by decide +kernel
theorem dX11_sold_72 : decode cX11_sold 72 = .ok (.iload_n 2, 1) := by decide +kernel
theorem dX11_sold_73 : decode cX11_sold 73 = .ok (.invokevirtual 160, 3) := by decide +kernel
theorem dX11_sold_76 : decode cX11_sold 76 = .ok (.isub, 1) := by decide +kernel
theorem dX11_sold_77 : decode cX11_sold 77 = .ok (.ireturn, 1) := by decide +kernel
theorem dX11_image_0 : decode cX11_image 0 = .ok (.iload_n 1, 1) := by decide +kernel
theorem dX11_image_1 : decode cX11_image 1 = .ok (.invokestatic 211, 3) := by decide +kernel
theorem dX11_image_4 : decode cX11_image 4 = .ok (.ifCond .ne 6, 3) := by decide +kernel
theorem dX11_image_7 : decode cX11_image 7 = .ok (.ldc 55, 2) := by decide +kernel
theorem dX11_image_9 : decode cX11_image 9 = .ok (.ireturn, 1) := by decide +kernel
theorem dX11_image_10 : decode cX11_image 10 = .ok (.aload_n 0, 1) := by decide +kernel
theorem dX11_image_11 : decode cX11_image 11 = .ok (.getfield 25, 3) := by decide +kernel
theorem dX11_image_14 : decode cX11_image 14 = .ok (.getfield 127, 3) := by decide +kernel
theorem dX11_image_17 : decode cX11_image 17 = .ok (.ifCond .ne 6, 3) := by decide +kernel
theorem dX11_image_20 : decode cX11_image 20 = .ok (.ldc 128, 2) := by decide +kernel
theorem dX11_image_22 : decode cX11_image 22 = .ok (.ireturn, 1) := by decide +kernel
theorem dX11_image_23 : decode cX11_image 23 = .ok (.aload_n 0, 1) := by decide +kernel
theorem dX11_image_24 : decode cX11_image 24 = .ok (.getfield 32, 3) := by decide +kernel
theorem dX11_image_27 : decode cX11_image 27 = .ok (.iload_n 1, 1) := by decide +kernel
theorem dX11_image_28 : decode cX11_image 28 = .ok (.aaload, 1) := by decide +kernel
theorem dX11_image_29 : decode cX11_image 29 = .ok (.aload_n 0, 1) := by decide +kernel
theorem dX11_image_30 : decode cX11_image 30 = .ok (.getfield 25, 3) := by decide +kernel
theorem dX11_image_33 : decode cX11_image 33 = .ok (.invokevirtual 117, 3) := by decide +kernel
theorem dX11_image_36 : decode cX11_image 36 = .ok (.iconst 1, 1) := by decide +kernel
theorem dX11_image_37 : decode cX11_image 37 = .ok (.ireturn, 1) := by decide +kernel
theorem dX11_restore_0 : decode cX11_restore 0 = .ok (.iload_n 1, 1) := by decide +kernel
theorem dX11_restore_1 : decode cX11_restore 1 = .ok (.invokestatic 211, 3) := by decide +kernel
theorem dX11_restore_4 : decode cX11_restore 4 = .ok (.ifCond .ne 6, 3) := by decide +kernel
theorem dX11_restore_7 : decode cX11_restore 7 = .ok (.ldc 55, 2) := by decide +kernel
theorem dX11_restore_9 : decode cX11_restore 9 = .ok (.ireturn, 1) := by decide +kernel
theorem dX11_restore_10 : decode cX11_restore 10 = .ok (.aload_n 0, 1) := by decide +kernel
theorem dX11_restore_11 : decode cX11_restore 11 = .ok (.getfield 32, 3) := by decide +kernel
theorem dX11_restore_14 : decode cX11_restore 14 = .ok (.iload_n 1, 1) := by decide +kernel
theorem dX11_restore_15 : decode cX11_restore 15 = .ok (.aaload, 1) := by decide +kernel
theorem dX11_restore_16 : decode cX11_restore 16 = .ok (.getfield 127, 3) := by decide +kernel
theorem dX11_restore_19 : decode cX11_restore 19 = .ok (.ifCond .ne 6, 3) := by decide +kernel
theorem dX11_restore_22 : decode cX11_restore 22 = .ok (.ldc 128, 2) := by decide +kernel
theorem dX11_restore_24 : decode cX11_restore 24 = .ok (.ireturn, 1) := by decide +kernel
theorem dX11_restore_25 : decode cX11_restore 25 = .ok (.aload_n 0, 1) := by decide +kernel
theorem dX11_restore_26 : decode cX11_restore 26 = .ok (.getfield 25, 3) := by decide +kernel
theorem dX11_restore_29 : decode cX11_restore 29 = .ok (.aload_n 0, 1) := by decide +kernel
theorem dX11_restore_30 : decode cX11_restore 30 = .ok (.getfield 32, 3) := by decide +kernel
theorem dX11_restore_33 : decode cX11_restore 33 = .ok (.iload_n 1, 1) := by decide +kernel
theorem dX11_restore_34 : decode cX11_restore 34 = .ok (.aaload, 1) := by decide +kernel
theorem dX11_restore_35 : decode cX11_restore 35 = .ok (.invokevirtual 117, 3) := by decide +kernel
theorem dX11_restore_38 : decode cX11_restore 38 = .ok (.aload_n 0, 1) := by decide +kernel
theorem dX11_restore_39 : decode cX11_restore 39 = .ok (.getfield 39, 3) := by decide +kernel
theorem dX11_restore_42 : decode cX11_restore 42 = .ok (.invokevirtual 121, 3) := by decide +kernel
theorem dX11_restore_45 : decode cX11_restore 45 = .ok (.iconst 1, 1) := by decide +kernel
theorem dX11_restore_46 : decode cX11_restore 46 = .ok (.ireturn, 1) := by decide +kernel
theorem dX11_kind_0 : decode cX11_kind 0 = .ok (.aload_n 0, 1) := by decide +kernel
theorem dX11_kind_1 : decode cX11_kind 1 = .ok (.getfield 25, 3) := by decide +kernel
theorem dX11_kind_4 : decode cX11_kind 4 = .ok (.iload_n 1, 1) := by decide +kernel
theorem dX11_kind_5 : decode cX11_kind 5 = .ok (.invokevirtual 151, 3) := by decide +kernel
theorem dX11_kind_8 : decode cX11_kind 8 = .ok (.astore_n 2, 1) := by decide +kernel
theorem dX11_kind_9 : decode cX11_kind 9 = .ok (.aload_n 2, 1) := by decide +kernel
theorem dX11_kind_10 : decode cX11_kind 10 = .ok (.ifnonnull 8, 3) := by decide +kernel
theorem dX11_kind_13 : decode cX11_kind 13 = .ok (.ldc 55, 2) := by decide +kernel
theorem dX11_kind_15 : decode cX11_kind 15 = .ok (.goto 7, 3) := by decide +kernel
theorem dX11_kind_18 : decode cX11_kind 18 = .ok (.aload_n 2, 1) := by decide +kernel
theorem dX11_kind_19 : decode cX11_kind 19 = .ok (.invokevirtual 214, 3) := by decide +kernel
theorem dX11_kind_22 : decode cX11_kind 22 = .ok (.ireturn, 1) := by decide +kernel
theorem dX11_as_0 : decode cX11_as 0 = .ok (.aload_n 0, 1) := by decide +kernel
theorem dX11_as_1 : decode cX11_as 1 = .ok (.getfield 25, 3) := by decide +kernel
theorem dX11_as_4 : decode cX11_as 4 = .ok (.iload_n 1, 1) := by decide +kernel
theorem dX11_as_5 : decode cX11_as 5 = .ok (.invokevirtual 151, 3) := by decide +kernel
theorem dX11_as_8 : decode cX11_as 8 = .ok (.astore_n 3, 1) := by decide +kernel
theorem dX11_as_9 : decode cX11_as 9 = .ok (.aload_n 3, 1) := by decide +kernel
theorem dX11_as_10 : decode cX11_as 10 = .ok (.ifnull 12, 3) := by decide +kernel
theorem dX11_as_13 : decode cX11_as 13 = .ok (.iload_n 2, 1) := by decide +kernel
theorem dX11_as_14 : decode cX11_as 14 = .ok (.ifCond .lt 8, 3) := by decide +kernel
theorem dX11_as_17 : decode cX11_as 17 = .ok (.iload_n 2, 1) := by decide +kernel
theorem dX11_as_18 : decode cX11_as 18 = .ok (.iconst 5, 1) := by decide +kernel
theorem dX11_as_19 : decode cX11_as 19 = .ok (.if_icmp .le 6, 3) := by decide +kernel
theorem dX11_as_22 : decode cX11_as 22 = .ok (.ldc 55, 2) := by decide +kernel
theorem dX11_as_24 : decode cX11_as 24 = .ok (.ireturn, 1) := by decide +kernel
theorem dX11_as_25 : decode cX11_as 25 = .ok (.aload_n 3, 1) := by decide +kernel
theorem dX11_as_26 : decode cX11_as 26 = .ok (.iload_n 2, 1) := by decide +kernel
theorem dX11_as_27 : decode cX11_as 27 = .ok (.invokestatic 217, 3) := by decide +kernel
theorem dX11_as_30 : decode cX11_as 30 = .ok (.ifCond .eq 14, 3) := by decide +kernel
theorem dX11_as_33 : decode cX11_as 33 = .ok (.aload_n 0, 1) := by decide +kernel
theorem dX11_as_34 : decode cX11_as 34 = .ok (.aload_n 3, 1) := by decide +kernel
theorem dX11_as_35 : decode cX11_as 35 = .ok (.getfield 221, 3) := by decide +kernel
theorem dX11_as_38 : decode cX11_as 38 = .ok (.invokevirtual 64, 3) := by decide +kernel
theorem dX11_as_41 : decode cX11_as 41 = .ok (.goto 8, 3) := by decide +kernel
theorem dX11_as_44 : decode cX11_as 44 = .ok (.aload_n 0, 1) := by decide +kernel
theorem dX11_as_45 : decode cX11_as 45 = .ok (.iconst 3, 1) := by decide +kernel
theorem dX11_as_46 : decode cX11_as 46 = .ok (.invokevirtual 56, 3) := by decide +kernel
theorem dX11_as_49 : decode cX11_as 49 = .ok (.ireturn, 1) := by decide +kernel
theorem dX11_ask_0 : decode cX11_ask 0 = .ok (.aload_n 0, 1) := by decide +kernel
theorem dX11_ask_1 : decode cX11_ask 1 = .ok (.getfield 25, 3) := by decide +kernel
theorem dX11_ask_4 : decode cX11_ask 4 = .ok (.iload_n 1, 1) := by decide +kernel
theorem dX11_ask_5 : decode cX11_ask 5 = .ok (.invokevirtual 151, 3) := by decide +kernel
theorem dX11_ask_8 : decode cX11_ask 8 = .ok (.astore_n 3, 1) := by decide +kernel
theorem dX11_ask_9 : decode cX11_ask 9 = .ok (.aload_n 3, 1) := by decide +kernel
theorem dX11_ask_10 : decode cX11_ask 10 = .ok (.ifnull 12, 3) := by decide +kernel
theorem dX11_ask_13 : decode cX11_ask 13 = .ok (.iload_n 2, 1) := by decide +kernel
theorem dX11_ask_14 : decode cX11_ask 14 = .ok (.ifCond .lt 8, 3) := by decide +kernel
theorem dX11_ask_17 : decode cX11_ask 17 = .ok (.iload_n 2, 1) := by decide +kernel
theorem dX11_ask_18 : decode cX11_ask 18 = .ok (.iconst 1, 1) := by decide +kernel
theorem dX11_ask_19 : decode cX11_ask 19 = .ok (.if_icmp .le 6, 3) := by decide +kernel
theorem dX11_ask_22 : decode cX11_ask 22 = .ok (.ldc 55, 2) := by decide +kernel
theorem dX11_ask_24 : decode cX11_ask 24 = .ok (.ireturn, 1) := by decide +kernel
theorem dX11_ask_25 : decode cX11_ask 25 = .ok (.aload_n 0, 1) := by decide +kernel
theorem dX11_ask_26 : decode cX11_ask 26 = .ok (.getfield 46, 3) := by decide +kernel
theorem dX11_ask_29 : decode cX11_ask 29 = .ok (.aload_n 0, 1) := by decide +kernel
theorem dX11_ask_30 : decode cX11_ask 30 = .ok (.getfield 25, 3) := by decide +kernel
theorem dX11_ask_33 : decode cX11_ask 33 = .ok (.getfield 124, 3) := by decide +kernel
theorem dX11_ask_36 : decode cX11_ask 36 = .ok (.invokevirtual 224, 3) := by decide +kernel
theorem dX11_ask_39 : decode cX11_ask 39 = .ok (.iload_n 2, 1) := by decide +kernel
theorem dX11_ask_40 : decode cX11_ask 40 = .ok (.ifCond .ne 15, 3) := by decide +kernel
theorem dX11_ask_43 : decode cX11_ask 43 = .ok (.aload_n 3, 1) := by decide +kernel
theorem dX11_ask_44 : decode cX11_ask 44 = .ok (.aload_n 0, 1) := by decide +kernel
theorem dX11_ask_45 : decode cX11_ask 45 = .ok (.getfield 46, 3) := by decide +kernel
theorem dX11_ask_48 : decode cX11_ask 48 = .ok (.iconst 0, 1) := by decide +kernel
theorem dX11_ask_49 : decode cX11_ask 49 = .ok (.invokevirtual 226, 3) := by decide +kernel
theorem dX11_ask_52 : decode cX11_ask 52 = .ok (.goto 12, 3) := by decide +kernel
theorem dX11_ask_55 : decode cX11_ask 55 = .ok (.aload_n 3, 1) := by decide +kernel
theorem dX11_ask_56 : decode cX11_ask 56 = .ok (.aload_n 0, 1) := by decide +kernel
theorem dX11_ask_57 : decode cX11_ask 57 = .ok (.getfield 46, 3) := by decide +kernel
theorem dX11_ask_60 : decode cX11_ask 60 = .ok (.iconst 0, 1) := by decide +kernel
theorem dX11_ask_61 : decode cX11_ask 61 = .ok (.invokevirtual 230, 3) := by decide +kernel
theorem dX11_ask_64 : decode cX11_ask 64 = .ok (.ireturn, 1) := by decide +kernel
theorem dX11_trace_0 : decode cX11_trace 0 = .ok (.iload_n 1, 1) := by decide +kernel
theorem dX11_trace_1 : decode cX11_trace 1 = .ok (.ifCond .lt 26, 3) := by decide +kernel
theorem dX11_trace_4 : decode cX11_trace 4 = .ok (.iload_n 1, 1) := by decide +kernel
theorem dX11_trace_5 : decode cX11_trace 5 = .ok (.aload_n 0, 1) := by decide +kernel
theorem dX11_trace_6 : decode cX11_trace 6 = .ok (.getfield 46, 3) := by decide +kernel
theorem dX11_trace_9 : decode cX11_trace 9 = .ok (.getfield 233, 3) := by decide +kernel
theorem dX11_trace_12 : decode cX11_trace 12 = .ok (.if_icmp .ge 15, 3) := by decide +kernel
theorem dX11_trace_15 : decode cX11_trace 15 = .ok (.aload_n 0, 1) := by decide +kernel
theorem dX11_trace_16 : decode cX11_trace 16 = .ok (.getfield 46, 3) := by decide +kernel
theorem dX11_trace_19 : decode cX11_trace 19 = .ok (.getfield 236, 3) := by decide +kernel
theorem dX11_trace_22 : decode cX11_trace 22 = .ok (.iload_n 1, 1) := by decide +kernel
theorem dX11_trace_23 : decode cX11_trace 23 = .ok (.iaload, 1) := by decide +kernel
theorem dX11_trace_24 : decode cX11_trace 24 = .ok (.goto 5, 3) := by decide +kernel
theorem dX11_trace_27 : decode cX11_trace 27 = .ok (.ldc 239, 2) := by decide +kernel
theorem dX11_trace_29 : decode cX11_trace 29 = .ok (.ireturn, 1) := by decide +kernel
theorem dX11_count_0 : decode cX11_count 0 = .ok (.iload_n 1, 1) := by decide +kernel
theorem dX11_count_1 : decode cX11_count 1 = .ok (.tableswitch 96 0 6 #[43, 48, 56, 64, 72, 80, 88], 43) := by decide +kernel
theorem dX11_count_44 : decode cX11_count 44 = .ok (.aload_n 0, 1) := by decide +kernel
theorem dX11_count_45 : decode cX11_count 45 = .ok (.invokevirtual 240, 3) := by decide +kernel
theorem dX11_count_48 : decode cX11_count 48 = .ok (.ireturn, 1) := by decide +kernel
theorem dX11_count_49 : decode cX11_count 49 = .ok (.aload_n 0, 1) := by decide +kernel
theorem dX11_count_50 : decode cX11_count 50 = .ok (.getfield 25, 3) := by decide +kernel
theorem dX11_count_53 : decode cX11_count 53 = .ok (.getfield 243, 3) := by decide +kernel
theorem dX11_count_56 : decode cX11_count 56 = .ok (.ireturn, 1) := by decide +kernel
theorem dX11_count_57 : decode cX11_count 57 = .ok (.aload_n 0, 1) := by decide +kernel
theorem dX11_count_58 : decode cX11_count 58 = .ok (.getfield 25, 3) := by decide +kernel
theorem dX11_count_61 : decode cX11_count 61 = .ok (.getfield 124, 3) := by decide +kernel
theorem dX11_count_64 : decode cX11_count 64 = .ok (.ireturn, 1) := by decide +kernel
theorem dX11_count_65 : decode cX11_count 65 = .ok (.aload_n 0, 1) := by decide +kernel
theorem dX11_count_66 : decode cX11_count 66 = .ok (.getfield 25, 3) := by decide +kernel
theorem dX11_count_69 : decode cX11_count 69 = .ok (.getfield 246, 3) := by decide +kernel
theorem dX11_count_72 : decode cX11_count 72 = .ok (.ireturn, 1) := by decide +kernel
theorem dX11_count_73 : decode cX11_count 73 = .ok (.aload_n 0, 1) := by decide +kernel
theorem dX11_count_74 : decode cX11_count 74 = .ok (.getfield 25, 3) := by decide +kernel
theorem dX11_count_77 : decode cX11_count 77 = .ok (.getfield 249, 3) := by decide +kernel
theorem dX11_count_80 : decode cX11_count 80 = .ok (.ireturn, 1) := by decide +kernel
theorem dX11_count_81 : decode cX11_count 81 = .ok (.aload_n 0, 1) := by decide +kernel
theorem dX11_count_82 : decode cX11_count 82 = .ok (.getfield 25, 3) := by decide +kernel
theorem dX11_count_85 : decode cX11_count 85 = .ok (.getfield 252, 3) := by decide +kernel
theorem dX11_count_88 : decode cX11_count 88 = .ok (.ireturn, 1) := by decide +kernel
theorem dX11_count_89 : decode cX11_count 89 = .ok (.aload_n 0, 1) := by decide +kernel
theorem dX11_count_90 : decode cX11_count 90 = .ok (.getfield 18, 3) := by decide +kernel
theorem dX11_count_93 : decode cX11_count 93 = .ok (.getfield 255, 3) := by decide +kernel
theorem dX11_count_96 : decode cX11_count 96 = .ok (.ireturn, 1) := by decide +kernel
theorem dX11_count_97 : decode cX11_count 97 = .ok (.ldc 55, 2) := by decide +kernel
theorem dX11_count_99 : decode cX11_count 99 = .ok (.ireturn, 1) := by decide +kernel
theorem dX11_status_0 : decode cX11_status 0 = .ok (.aload_n 0, 1) := by decide +kernel
theorem dX11_status_1 : decode cX11_status 1 = .ok (.getfield 258, 3) := by decide +kernel
theorem dX11_status_4 : decode cX11_status 4 = .ok (.ireturn, 1) := by decide +kernel
theorem dX11_isRow_0 : decode cX11_isRow 0 = .ok (.iload_n 0, 1) := by decide +kernel
theorem dX11_isRow_1 : decode cX11_isRow 1 = .ok (.ifCond .lt 13, 3) := by decide +kernel
theorem dX11_isRow_4 : decode cX11_isRow 4 = .ok (.iload_n 0, 1) := by decide +kernel
theorem dX11_isRow_5 : decode cX11_isRow 5 = .ok (.bipush 8, 2) := by decide +kernel
theorem dX11_isRow_7 : decode cX11_isRow 7 = .ok (.if_icmp .ge 7, 3) := by decide +kernel
theorem dX11_isRow_10 : decode cX11_isRow 10 = .ok (.iconst 1, 1) := by decide +kernel
theorem dX11_isRow_11 : decode cX11_isRow 11 = .ok (.goto 4, 3) := by decide +kernel
theorem dX11_isRow_14 : decode cX11_isRow 14 = .ok (.iconst 0, 1) := by decide +kernel
theorem dX11_isRow_15 : decode cX11_isRow 15 = .ok (.ireturn, 1) := by decide +kernel
theorem dX11_isImage_0 : decode cX11_isImage 0 = .ok (.iload_n 0, 1) := by decide +kernel
theorem dX11_isImage_1 : decode cX11_isImage 1 = .ok (.ifCond .lt 12, 3) := by decide +kernel
theorem dX11_isImage_4 : decode cX11_isImage 4 = .ok (.iload_n 0, 1) := by decide +kernel
theorem dX11_isImage_5 : decode cX11_isImage 5 = .ok (.iconst 2, 1) := by decide +kernel
theorem dX11_isImage_6 : decode cX11_isImage 6 = .ok (.if_icmp .ge 7, 3) := by decide +kernel
theorem dX11_isImage_9 : decode cX11_isImage 9 = .ok (.iconst 1, 1) := by decide +kernel
theorem dX11_isImage_10 : decode cX11_isImage 10 = .ok (.goto 4, 3) := by decide +kernel
theorem dX11_isImage_13 : decode cX11_isImage 13 = .ok (.iconst 0, 1) := by decide +kernel
theorem dX11_isImage_14 : decode cX11_isImage 14 = .ok (.ireturn, 1) := by decide +kernel
theorem dX11_found_0 : decode cX11_found 0 = .ok (.aload_n 0, 1) := by decide +kernel
theorem dX11_found_1 : decode cX11_found 1 = .ok (.iload_n 1, 1) := by decide +kernel
theorem dX11_found_2 : decode cX11_found 2 = .ok (.putfield 258, 3) := by decide +kernel
theorem dX11_found_5 : decode cX11_found 5 = .ok (.ldc_w 261, 3) := by decide +kernel
theorem dX11_found_8 : decode cX11_found 8 = .ok (.iload_n 1, 1) := by decide +kernel
theorem dX11_found_9 : decode cX11_found 9 = .ok (.isub, 1) := by decide +kernel
theorem dX11_found_10 : decode cX11_found 10 = .ok (.ireturn, 1) := by decide +kernel
theorem dX11_passed_0 : decode cX11_passed 0 = .ok (.aload_n 0, 1) := by decide +kernel
theorem dX11_passed_1 : decode cX11_passed 1 = .ok (.iconst 0, 1) := by decide +kernel
theorem dX11_passed_2 : decode cX11_passed 2 = .ok (.putfield 258, 3) := by decide +kernel
theorem dX11_passed_5 : decode cX11_passed 5 = .ok (.iload_n 1, 1) := by decide +kernel
theorem dX11_passed_6 : decode cX11_passed 6 = .ok (.ireturn, 1) := by decide +kernel
theorem dX11_howManyRows_0 : decode cX11_howManyRows 0 = .ok (.iconst 0, 1) := by decide +kernel
theorem dX11_howManyRows_1 : decode cX11_howManyRows 1 = .ok (.istore_n 1, 1) := by decide +kernel
theorem dX11_howManyRows_2 : decode cX11_howManyRows 2 = .ok (.iconst 0, 1) := by decide +kernel
theorem dX11_howManyRows_3 : decode cX11_howManyRows 3 = .ok (.istore_n 2, 1) := by decide +kernel
theorem dX11_howManyRows_4 : decode cX11_howManyRows 4 = .ok (.iload_n 2, 1) := by decide +kernel
theorem dX11_howManyRows_5 : decode cX11_howManyRows 5 = .ok (.bipush 8, 2) := by decide +kernel
theorem dX11_howManyRows_7 : decode cX11_howManyRows 7 = .ok (.if_icmp .ge 24, 3) := by decide +kernel
theorem dX11_howManyRows_10 : decode cX11_howManyRows 10 = .ok (.aload_n 0, 1) := by decide +kernel
theorem dX11_howManyRows_11 : decode cX11_howManyRows 11 = .ok (.getfield 11, 3) := by decide +kernel
theorem dX11_howManyRows_14 : decode cX11_howManyRows 14 = .ok (.iload_n 2, 1) := by decide +kernel
theorem dX11_howManyRows_15 : decode cX11_howManyRows 15 = .ok (.aaload, 1) := by decide +kernel
theorem dX11_howManyRows_16 : decode cX11_howManyRows 16 = .ok (.getfield 67, 3) := by decide +kernel
theorem dX11_howManyRows_19 : decode cX11_howManyRows 19 = .ok (.ifCond .eq 6, 3) := by decide +kernel
theorem dX11_howManyRows_22 : decode cX11_howManyRows 22 = .ok (.iinc 1 1, 3) := by decide +kernel
theorem dX11_howManyRows_25 : decode cX11_howManyRows 25 = .ok (.iinc 2 1, 3) := by decide +kernel
theorem dX11_howManyRows_28 : decode cX11_howManyRows 28 = .ok (.goto (-24), 3) := by decide +kernel
theorem dX11_howManyRows_31 : decode cX11_howManyRows 31 = .ok (.iload_n 1, 1) := by decide +kernel
theorem dX11_howManyRows_32 : decode cX11_howManyRows 32 = .ok (.ireturn, 1) := by decide +kernel
theorem dX11_refusalToTell_0 : decode cX11_refusalToTell 0 = .ok (.aload_n 0, 1) := by decide +kernel
theorem dX11_refusalToTell_1 : decode cX11_refusalToTell 1 = .ok (.getfield 25, 3) := by decide +kernel
theorem dX11_refusalToTell_4 : decode cX11_refusalToTell 4 = .ok (.getfield 127, 3) := by decide +kernel
theorem dX11_refusalToTell_7 : decode cX11_refusalToTell 7 = .ok (.ifCond .ne 6, 3) := by decide +kernel
theorem dX11_refusalToTell_10 : decode cX11_refusalToTell 10 = .ok (.ldc 128, 2) := by decide +kernel
theorem dX11_refusalToTell_12 : decode cX11_refusalToTell 12 = .ok (.ireturn, 1) := by decide +kernel
theorem dX11_refusalToTell_13 : decode cX11_refusalToTell 13 = .ok (.iload_n 2, 1) := by decide +kernel
theorem dX11_refusalToTell_14 : decode cX11_refusalToTell 14 = .ok (.ifCond .ne 10, 3) := by decide +kernel
theorem dX11_refusalToTell_17 : decode cX11_refusalToTell 17 = .ok (.iload_n 1, 1) := by decide +kernel
theorem dX11_refusalToTell_18 : decode cX11_refusalToTell 18 = .ok (.invokestatic 51, 3) := by decide +kernel
theorem dX11_refusalToTell_21 : decode cX11_refusalToTell 21 = .ok (.ifCond .ne 6, 3) := by decide +kernel
theorem dX11_refusalToTell_24 : decode cX11_refusalToTell 24 = .ok (.ldc 55, 2) := by decide +kernel
theorem dX11_refusalToTell_26 : decode cX11_refusalToTell 26 = .ok (.ireturn, 1) := by decide +kernel
theorem dX11_refusalToTell_27 : decode cX11_refusalToTell 27 = .ok (.aload_n 0, 1) := by decide +kernel
theorem dX11_refusalToTell_28 : decode cX11_refusalToTell 28 = .ok (.getfield 11, 3) := by decide +kernel
theorem dX11_refusalToTell_31 : decode cX11_refusalToTell 31 = .ok (.iload_n 1, 1) := by decide +kernel
theorem dX11_refusalToTell_32 : decode cX11_refusalToTell 32 = .ok (.aaload, 1) := by decide +kernel
theorem dX11_refusalToTell_33 : decode cX11_refusalToTell 33 = .ok (.astore_n 3, 1) := by decide +kernel
theorem dX11_refusalToTell_34 : decode cX11_refusalToTell 34 = .ok (.aload_n 3, 1) := by decide +kernel
theorem dX11_refusalToTell_35 : decode cX11_refusalToTell 35 = .ok (.getfield 67, 3) := by decide +kernel
theorem dX11_refusalToTell_38 : decode cX11_refusalToTell 38 = .ok (.ifCond .ne 9, 3) := by decide +kernel
theorem dX11_refusalToTell_41 : decode cX11_refusalToTell 41 = .ok (.aload_n 0, 1) := by decide +kernel
theorem dX11_refusalToTell_42 : decode cX11_refusalToTell 42 = .ok (.iconst 1, 1) := by decide +kernel
theorem dX11_refusalToTell_43 : decode cX11_refusalToTell 43 = .ok (.invokevirtual 56, 3) := by decide +kernel
theorem dX11_refusalToTell_46 : decode cX11_refusalToTell 46 = .ok (.ireturn, 1) := by decide +kernel
theorem dX11_refusalToTell_47 : decode cX11_refusalToTell 47 = .ok (.aload_n 3, 1) := by decide +kernel
theorem dX11_refusalToTell_48 : decode cX11_refusalToTell 48 = .ok (.getfield 71, 3) := by decide +kernel
theorem dX11_refusalToTell_51 : decode cX11_refusalToTell 51 = .ok (.aload_n 0, 1) := by decide +kernel
theorem dX11_refusalToTell_52 : decode cX11_refusalToTell 52 = .ok (.getfield 25, 3) := by decide +kernel
theorem dX11_refusalToTell_55 : decode cX11_refusalToTell 55 = .ok (.getfield 124, 3) := by decide +kernel
theorem dX11_refusalToTell_58 : decode cX11_refusalToTell 58 = .ok (.if_icmp .ge 9, 3) := by decide +kernel
theorem dX11_refusalToTell_61 : decode cX11_refusalToTell 61 = .ok (.aload_n 0, 1) := by decide +kernel
theorem dX11_refusalToTell_62 : decode cX11_refusalToTell 62 = .ok (.iconst 2, 1) := by decide +kernel
theorem dX11_refusalToTell_63 : decode cX11_refusalToTell 63 = .ok (.invokevirtual 56, 3) := by decide +kernel
theorem dX11_refusalToTell_66 : decode cX11_refusalToTell 66 = .ok (.ireturn, 1) := by decide +kernel
theorem dX11_refusalToTell_67 : decode cX11_refusalToTell 67 = .ok (.iconst 0, 1) := by decide +kernel
theorem dX11_refusalToTell_68 : decode cX11_refusalToTell 68 = .ok (.istore 4, 2) := by decide +kernel
theorem dX11_refusalToTell_70 : decode cX11_refusalToTell 70 = .ok (.iload 4, 2) := by decide +kernel
theorem dX11_refusalToTell_72 : decode cX11_refusalToTell 72 = .ok (.aload_n 0, 1) := by decide +kernel
theorem dX11_refusalToTell_73 : decode cX11_refusalToTell 73 = .ok (.getfield 25, 3) := by decide +kernel
theorem dX11_refusalToTell_76 : decode cX11_refusalToTell 76 = .ok (.getfield 124, 3) := by decide +kernel
theorem dX11_refusalToTell_79 : decode cX11_refusalToTell 79 = .ok (.if_icmp .ge 23, 3) := by decide +kernel
theorem dX11_refusalToTell_82 : decode cX11_refusalToTell 82 = .ok (.aload_n 3, 1) := by decide +kernel
theorem dX11_refusalToTell_83 : decode cX11_refusalToTell 83 = .ok (.getfield 75, 3) := by decide +kernel
theorem dX11_refusalToTell_86 : decode cX11_refusalToTell 86 = .ok (.iload 4, 2) := by decide +kernel
theorem dX11_refusalToTell_88 : decode cX11_refusalToTell 88 = .ok (.iaload, 1) := by decide +kernel
theorem dX11_refusalToTell_89 : decode cX11_refusalToTell 89 = .ok (.iconst (-1), 1) := by decide +kernel
theorem dX11_refusalToTell_90 : decode cX11_refusalToTell 90 = .ok (.if_icmp .ge 6, 3) := by decide +kernel
theorem dX11_refusalToTell_93 : decode cX11_refusalToTell 93 = .ok (.ldc 55, 2) := by decide +kernel
theorem dX11_refusalToTell_95 : decode cX11_refusalToTell 95 = .ok (.ireturn, 1) := by decide +kernel
theorem dX11_refusalToTell_96 : decode cX11_refusalToTell 96 = .ok (.iinc 4 1, 3) := by decide +kernel
theorem dX11_refusalToTell_99 : decode cX11_refusalToTell 99 = .ok (.goto (-29), 3) := by decide +kernel
theorem dX11_refusalToTell_102 : decode cX11_refusalToTell 102 = .ok (.iconst 0, 1) := by decide +kernel
theorem dX11_refusalToTell_103 : decode cX11_refusalToTell 103 = .ok (.ireturn, 1) := by decide +kernel
theorem dX11_isOfKind_0 : decode cX11_isOfKind 0 = .ok (.iload_n 1, 1) := by decide +kernel
theorem dX11_isOfKind_1 : decode cX11_isOfKind 1 = .ok (.tableswitch 66 0 5 #[39, 41, 46, 51, 56, 61], 39) := by decide +kernel
theorem dX11_isOfKind_40 : decode cX11_isOfKind 40 = .ok (.iconst 1, 1) := by decide +kernel
theorem dX11_isOfKind_41 : decode cX11_isOfKind 41 = .ok (.ireturn, 1) := by decide +kernel
theorem dX11_isOfKind_42 : decode cX11_isOfKind 42 = .ok (.aload_n 0, 1) := by decide +kernel
theorem dX11_isOfKind_43 : decode cX11_isOfKind 43 = .ok (.instanceof 262, 3) := by decide +kernel
theorem dX11_isOfKind_46 : decode cX11_isOfKind 46 = .ok (.ireturn, 1) := by decide +kernel
theorem dX11_isOfKind_47 : decode cX11_isOfKind 47 = .ok (.aload_n 0, 1) := by decide +kernel
theorem dX11_isOfKind_48 : decode cX11_isOfKind 48 = .ok (.instanceof 264, 3) := by decide +kernel
theorem dX11_isOfKind_51 : decode cX11_isOfKind 51 = .ok (.ireturn, 1) := by decide +kernel
theorem dX11_isOfKind_52 : decode cX11_isOfKind 52 = .ok (.aload_n 0, 1) := by decide +kernel
theorem dX11_isOfKind_53 : decode cX11_isOfKind 53 = .ok (.instanceof 266, 3) := by decide +kernel
theorem dX11_isOfKind_56 : decode cX11_isOfKind 56 = .ok (.ireturn, 1) := by decide +kernel
theorem dX11_isOfKind_57 : decode cX11_isOfKind 57 = .ok (.aload_n 0, 1) := by decide +kernel
theorem dX11_isOfKind_58 : decode cX11_isOfKind 58 = .ok (.instanceof 268, 3) := by decide +kernel
theorem dX11_isOfKind_61 : decode cX11_isOfKind 61 = .ok (.ireturn, 1) := by decide +kernel
theorem dX11_isOfKind_62 : decode cX11_isOfKind 62 = .ok (.aload_n 0, 1) := by decide +kernel
theorem dX11_isOfKind_63 : decode cX11_isOfKind 63 = .ok (.instanceof 270, 3) := by decide +kernel
theorem dX11_isOfKind_66 : decode cX11_isOfKind 66 = .ok (.ireturn, 1) := by decide +kernel
theorem dX11_isOfKind_67 : decode cX11_isOfKind 67 = .ok (.iconst 0, 1) := by decide +kernel
theorem dX11_isOfKind_68 : decode cX11_isOfKind 68 = .ok (.ireturn, 1) := by decide +kernel
end
section
/-! THE GROUND: one heap of labels. G = (the base: label k lies at address base + k; the classes' numbers and slots; addresses of old objects, labels from 1000000 on; the array classes by kind: 0 int, 1 byte, 2 boolean, 3 Row, 4 Port, 5 Thing). A heap 'hP' is a list of cells; references in it are labels. -/
abbrev gS : Type := Nat × va_G × (Nat → Nat) × (Nat → ClassId)
abbrev hP : Type := List va_E
abbrev gM : Type := MethodName × ByteArray × Nat × Option FieldType × List Cond
def g_ad (G : gS) (k : Nat) : Nat := if k < 1000000 then G.1 + k else G.2.2.1 (k - 1000000)
def g_em (G : gS) (v : Value) : Value := match v with
  | .ref k => .ref (g_ad G k)
  | v => v
def g_ar (G : gS) (x : vp_A) : vp_A := match x with
  | (n, .inr (.inr (.inr (.inr f)))) => (n, .inr (.inr (.inr (.inr (fun i => (f i).map (g_ad G))))))
  | x => x
def g_ce (G : gS) (c : va_E) : va_E := match c with
  | .inl (t, x) => .inl (G.2.2.2 t, g_ar G x)
  | .inr (ci, fs) => .inr (ci, fs.map (g_em G))
def g_ws (G : gS) (A : hP) : va_W := A.mapIdx (fun k c => (G.1 + k, g_ce G c))
def g_ty (G : gS) : List (ClassId × FieldType) := [(G.2.2.2 0, .int), (G.2.2.2 1, .byte), (G.2.2.2 2, .boolean), (G.2.2.2 3, .object "YesterdayScale$Row"), (G.2.2.2 4, .object "YesterdayScale$Port"), (G.2.2.2 5, .object "YesterdayScale$Thing")]
def g_A (G : gS) : Nat → Prop := fun q => G.1 ≤ q
def g_lm (G : gS) (q : Nat × Value) : Nat × Value := (q.1, g_em G q.2)
-- the texts of the String constants of the tape: place in the pool, text
def g_str : List (Nat × String) := [(48, "law"), (73, "thing"), (105, "salt"), (109, "fish"), (113, "wool"), (117, "stone"), (121, "whale"), (93, "day")]
def g_len : List Nat := [3, 5, 4, 4, 4, 5, 5, 3]
def g_byt : List (List Int32) := [[108, 97, 119], [116, 104, 105, 110, 103], [115, 97, 108, 116], [102, 105, 115, 104], [119, 111, 111, 108], [115, 116, 111, 110, 101], [119, 104, 97, 108, 101], [100, 97, 121]]
-- which casts hold, which don't
def g_yes : List (String × String) := [("YesterdayScale$Salt", "YesterdayScale$Thing"), ("YesterdayScale$Fish", "YesterdayScale$Thing"), ("YesterdayScale$Wool", "YesterdayScale$Thing"), ("YesterdayScale$Stone", "YesterdayScale$Thing"), ("YesterdayScale$Whale", "YesterdayScale$Thing"), ("YesterdayScale$Fish", "YesterdayScale$Salt"), ("YesterdayScale$Wool", "YesterdayScale$Salt"), ("YesterdayScale$Whale", "YesterdayScale$Stone")]
def g_no : List (String × String) := [("YesterdayScale$Salt", "YesterdayScale$Fish"), ("YesterdayScale$Salt", "YesterdayScale$Wool"), ("YesterdayScale$Salt", "YesterdayScale$Stone"), ("YesterdayScale$Salt", "YesterdayScale$Whale"), ("YesterdayScale$Fish", "YesterdayScale$Wool"), ("YesterdayScale$Fish", "YesterdayScale$Stone"), ("YesterdayScale$Fish", "YesterdayScale$Whale"), ("YesterdayScale$Wool", "YesterdayScale$Fish"), ("YesterdayScale$Wool", "YesterdayScale$Stone"), ("YesterdayScale$Wool", "YesterdayScale$Whale"), ("YesterdayScale$Stone", "YesterdayScale$Salt"), ("YesterdayScale$Stone", "YesterdayScale$Fish"), ("YesterdayScale$Stone", "YesterdayScale$Wool"), ("YesterdayScale$Stone", "YesterdayScale$Whale"), ("YesterdayScale$Whale", "YesterdayScale$Salt"), ("YesterdayScale$Whale", "YesterdayScale$Fish"), ("YesterdayScale$Whale", "YesterdayScale$Wool")]
def g_nest : List (String × Nat × MethodName × String) := [("YesterdayScale", 17, ⟨"YesterdayScale$Tape", "<init>", "()V"⟩, "YesterdayScale"), ("YesterdayScale", 24, ⟨"YesterdayScale$Port", "<init>", "()V"⟩, "YesterdayScale"), ("YesterdayScale", 38, ⟨"YesterdayScale$Worlds", "<init>", "()V"⟩, "YesterdayScale"), ("YesterdayScale", 45, ⟨"YesterdayScale$Asking", "<init>", "()V"⟩, "YesterdayScale"), ("YesterdayScale", 50, ⟨"YesterdayScale$Row", "<init>", "()V"⟩, "YesterdayScale")]
/-- what is known of the tables and of the old heap, and stays -/
def g_Old (G : gS) (U : State) : Prop :=
  (va_AO "YesterdayScale$Row" U ∧ va_AO "YesterdayScale$Port" U ∧ va_AO "YesterdayScale$Thing" U) ∧
  (∀ q ∈ g_yes, va_Nw (.castable q.1 q.2) U) ∧ (∀ q ∈ g_no, va_Nc q.1 q.2 U) ∧
  (∀ q ∈ g_nest, va_Nw (.methodLinkNest q.1 q.2.1 q.2.2.1 q.2.2.2) U) ∧
  va_Nw (.declares ⟨"YesterdayScale$Thing", "kindNumber", "()I"⟩) U ∧
  (∀ (i : Nat) (q : Nat × String), g_str[i]? = some q → vk_R RX6 q.1 q.2 (G.2.2.1 i) U) ∧
  vk_S 8 g_len g_byt G.2.2.1 (fun i => G.2.2.1 (100 + i)) (g_A G) U U.heap ∧
  va_Z "java/lang/String" "COMPACT_STRINGS" "Z" (.int 1) (g_A G) U U.heap
theorem g_em_cat (G : gS) (v : Value) : (g_em G v).category = v.category := by cases v <;> rfl
theorem g_cat_rf (r : Option Nat) : (va_rf r).category = 1 := by cases r <;> rfl
theorem g_em_rf (G : gS) (r : Option Nat) : g_em G (va_rf r) = va_rf (r.map (g_ad G)) := by cases r <;> rfl
theorem g_ad_lt (G : gS) {k : Nat} (h : k < 1000000) : g_ad G k = G.1 + k := by simp [g_ad, h]
theorem g_ws_get (G : gS) {A : hP} {k : Nat} {c : va_E} (h : A[k]? = some c) : (g_ws G A)[k]? = some (G.1 + k, g_ce G c) := by
  simp [g_ws, List.getElem?_mapIdx, h]
theorem g_ws_len (G : gS) (A : hP) : (g_ws G A).length = A.length := by simp [g_ws]
theorem g_ws_set (G : gS) (A : hP) (k : Nat) (c : va_E) : (g_ws G A).set k (G.1 + k, g_ce G c) = g_ws G (A.set k c) := by
  apply List.ext_getElem?
  intro i
  simp only [g_ws, List.getElem?_mapIdx, List.getElem?_set, List.length_mapIdx]
  by_cases h : k = i
  · subst h
    by_cases h2 : k < A.length
    · simp [h2]
    · simp [h2]
  · simp [h]
theorem g_ws_app (G : gS) (A : hP) (c : va_E) : g_ws G (A ++ [c]) = g_ws G A ++ [(G.1 + A.length, g_ce G c)] := by
  simp [g_ws, List.mapIdx_append]
theorem g_D (G : gS) (A : hP) : va_D (g_A G) (g_ws G A) := by
  constructor
  · intro i j p q hp hq h
    simp only [g_ws, List.getElem?_mapIdx, Option.map_eq_some_iff] at hp hq
    obtain ⟨_, -, rfl⟩ := hp
    obtain ⟨_, -, rfl⟩ := hq
    exact Nat.add_left_cancel h
  · intro k q hk
    simp only [g_ws, List.getElem?_mapIdx, Option.map_eq_some_iff] at hk
    obtain ⟨_, -, rfl⟩ := hk
    exact Nat.le_add_right _ _
theorem g_lt {A : hP} {k : Nat} {c : va_E} (h : A[k]? = some c) : k < A.length := (List.getElem?_eq_some_iff.mp h).1
theorem g_Old.moved {G : gS} {s U : State} (h : g_Old G s) (hW : s.WarmedH U.vm) (hq : ∀ q : Nat, q < s.heap.size → ¬ g_A G q → U.heap[q]? = s.heap[q]?) : g_Old G U := by
  obtain ⟨⟨a1, a2, a3⟩, b, c, d, e, f, g, z⟩ := h
  have hv := hW.alike
  exact ⟨⟨a1.moved hv, a2.moved hv, a3.moved hv⟩, fun q hq => (b q hq).warmC hW, fun q hq => (c q hq).moved hv, fun q hq => (d q hq).warmM hW, e.warmD hW, fun i q hi => (f i q hi).warm hW, (g.moved hv).kept hq, (z.moved hv).kept hq⟩
def g_B (M : gM) (p : Program) (s : State) (m : MethodId) (args : Array Value) (meth : Method) (c : Code) : Prop :=
  p.tables.exec = Jvm.exec ∧ c.code = M.2.1 ∧ meth.sig.returnType = M.2.2.2.1 ∧ c.maxLocals = M.2.2.1 ∧ s.vm.findClass M.1.cls = some m.cls ∧ (∀ w ∈ M.2.2.2.2, w.before args s = true) ∧ meth.locks = false ∧ meth.name = M.1.name
/-- the locals by their places; 'none': nothing is said -/
def g_L (G : gS) (nL : Nat) (ls : List (Option Value)) (la : Array Slot) : Prop := la.size = nL ∧ lv_wf la ∧ ∀ (i : Nat) (v : Value), ls[i]? = some (some v) → la[i]? = some (.val (g_em G v))
/-- what stays through a method's run, and what moves -/
def g_F (M : gM) (G : gS) (p : Program) (s : State) (m : MethodId) (args : Array Value) (meth : Method) (c : Code) : Prop := g_B M p s m args meth c ∧ va_K G.2.1 vwCl (g_ty G) s ∧ g_Old G s ∧ G.1 ≤ s.heap.size
def g_V (nL : Nat) (G : gS) (A : hP) (s : State) (H : Heap) (locs : List Loc) (ls : List (Option Value)) (la : Array Slot) : Prop := va_P G.2.1 vwCl (g_ws G A) H ∧ H.size = G.1 + A.length ∧ A.length ≤ 1000000 ∧ va_S (g_A G) s.heap H locs ∧ g_L G nL ls la
def AW (l : Launch) (M : gM) (R : Room) (G : gS) (Qf : Array Value → State → List Frame → State → Prop) (A : hP) (cs ss pc : Nat) (ls : List (Option Value)) (st : List Value) : Prop :=
  ∀ (p : Program) (e : Env) (s : State) (m : MethodId) (args : Array Value) (below : List Frame) (meth : Method) (c : Code) (H : Heap) (locs : List Loc) (la : Array Slot), g_F M G p s m args meth c → g_V M.2.2.1 G A s H locs ls la →
    W p l e R s m args below meth c H locs cs ss (Qf args s below) (F0 m pc la (st.map (g_em G)))
/-- a method's start, its end, its contract -/
def g_H (G : gS) (A : hP) (U : State) : Prop := va_P G.2.1 vwCl (g_ws G A) U.heap ∧ va_K G.2.1 vwCl (g_ty G) U ∧ g_Old G U ∧ U.heap.size = G.1 + A.length ∧ A.length ≤ 1000000
def g_Qc (G : gS) (Q : Option Value → hP → Prop) : Array Value → State → Outcome → State → Prop := fun _ st o t => ∃ (v : Option Value) (A' : hP), o = .returned (v.map (g_em G)) ∧ Q v A' ∧ va_P G.2.1 vwCl (g_ws G A') t.heap ∧ t.heap.size = G.1 + A'.length ∧ A'.length ≤ 1000000 ∧ va_F (g_A G) st t
def g_Qf (G : gS) (Q : Option Value → hP → Prop) (mc ms : Nat) : Array Value → State → List Frame → State → Prop := fun args s below => MQ below (g_Qc G Q) args s mc ms (g_A G)
def g_rm (d mc ms : Nat) : Room := { frames := d, cells := mc, slots := ms, locals := 36 * d }
def Ct (l : Launch) (M : gM) (d mc ms : Nat) (A : hP) (as : List Value) (Q : Option Value → hP → Prop) : Prop :=
  ∀ G : gS, Met l M.1 M.2.2.2.2 (g_rm d mc ms) (va_Pc (as.map (g_em G)) (g_H G A)) (g_Qc G Q) mc ms (g_A G)
def gi (r : Int32 × hP) : Option Value → hP → Prop := fun v A => v = some (.int r.1) ∧ A = r.2
def gl (r : Int64 × hP) : Option Value → hP → Prop := fun v A => v = some (.long r.1) ∧ A = r.2
def gr (r : Option Nat × hP) : Option Value → hP → Prop := fun v A => v = some (va_rf r.1) ∧ A = r.2
def gu (r : Unit × hP) : Option Value → hP → Prop := fun v A => v = none ∧ A = r.2
theorem g_blind (G : gS) (A : hP) (as : List Value) : FrameBlind (va_Pc as (g_H G A)) := by
  intro a U g mk h
  obtain ⟨h0, h1, h2, h3, h4, h5⟩ := h
  exact ⟨h0, h1, va_K.moved (u := U) (U := U.calling g mk a) (Vm.Alike.refl U.vm) h2, by
    obtain ⟨⟨a1, a2, a3⟩, b, c, d, e, f, g1, z⟩ := h3
    exact ⟨⟨a1.moved (Vm.Alike.refl U.vm), a2.moved (Vm.Alike.refl U.vm), a3.moved (Vm.Alike.refl U.vm)⟩, fun q hq => va_Nw.same rfl rfl (b q hq), fun q hq => (c q hq).moved (Vm.Alike.refl U.vm), fun q hq => va_Nw.same rfl rfl (d q hq), va_Nw.same rfl rfl e, fun i q hi => vk_R.same rfl (f i q hi), g1.moved (Vm.Alike.refl U.vm), z.moved (Vm.Alike.refl U.vm)⟩, h4, h5⟩
theorem g_pre {M : gM} {G : gS} {p : Program} {s : State} {m : MethodId} {args : Array Value} {meth : Method} {c : Code} {nL : Nat} {A : hP} {H : Heap} {locs : List Loc} {ls : List (Option Value)} {la : Array Slot} (hF : g_F M G p s m args meth c) (hM : g_V nL G A s H locs ls la) {U : State} (hU : U.heap = H) (hW : s.WarmedH U.vm) : g_H G A U := by
  obtain ⟨h1, h2, h3, h4, h5⟩ := hM
  refine ⟨by rw [hU]; exact h1, va_K.moved hW.alike hF.2.1, hF.2.2.1.moved hW (fun q a b => ?_), by rw [hU]; exact h2, h3⟩
  rw [hU]; exact h4.2.1 q a b
section AWR
variable {l : Launch} {M : gM} {R : Room} {G : gS} {Qf : Array Value → State → List Frame → State → Prop} {A : hP} {cs ss pc : Nat} {ls : List (Option Value)} {st : List Value}
theorem AW_iconst {i : Int} {v : Int32} (hd : decode M.2.1 pc = .ok (.iconst i, 1)) (hv : Int32.ofInt i = v) (k : AW l M R G Qf A cs ss (pc + 1) ls (.int v :: st)) : AW l M R G Qf A cs ss pc ls (st) := by
  intro p e s m args below meth c H locs la hF hM
  exact lv_iconst hF.1.1 hF.1.2.1 hd hv (k p e s m args below meth c H locs la hF hM)
theorem AW_bipush {i : Int} {v : Int32} (hd : decode M.2.1 pc = .ok (.bipush i, 2)) (hv : (Int8.ofInt i).toInt32 = v) (k : AW l M R G Qf A cs ss (pc + 2) ls (.int v :: st)) : AW l M R G Qf A cs ss pc ls (st) := by
  intro p e s m args below meth c H locs la hF hM
  exact lv_bipush hF.1.1 hF.1.2.1 hd hv (k p e s m args below meth c H locs la hF hM)
theorem AW_sipush {i : Int} {v : Int32} (hd : decode M.2.1 pc = .ok (.sipush i, 3)) (hv : (Int16.ofInt i).toInt32 = v) (k : AW l M R G Qf A cs ss (pc + 3) ls (.int v :: st)) : AW l M R G Qf A cs ss pc ls (st) := by
  intro p e s m args below meth c H locs la hF hM
  exact lv_sipush hF.1.1 hF.1.2.1 hd hv (k p e s m args below meth c H locs la hF hM)
theorem AW_lconst {i : Fin 2} {v : Int64} (hd : decode M.2.1 pc = .ok (.lconst i, 1)) (hv : Int64.ofNat (i : Nat) = v) (k : AW l M R G Qf A cs ss (pc + 1) ls (.long v :: st)) : AW l M R G Qf A cs ss pc ls (st) := by
  intro p e s m args below meth c H locs la hF hM
  exact lv_lconst hF.1.1 hF.1.2.1 hd hv (k p e s m args below meth c H locs la hF hM)
theorem AW_iadd {x y : Int32} (hd : decode M.2.1 pc = .ok (.iadd, 1)) (k : AW l M R G Qf A cs ss (pc + 1) ls (.int (x + y) :: st)) : AW l M R G Qf A cs ss pc ls (.int y :: .int x :: st) := by
  intro p e s m args below meth c H locs la hF hM
  exact lv_iadd hF.1.1 hF.1.2.1 hd (k p e s m args below meth c H locs la hF hM)
theorem AW_isub {x y : Int32} (hd : decode M.2.1 pc = .ok (.isub, 1)) (k : AW l M R G Qf A cs ss (pc + 1) ls (.int (x - y) :: st)) : AW l M R G Qf A cs ss pc ls (.int y :: .int x :: st) := by
  intro p e s m args below meth c H locs la hF hM
  exact lv_isub hF.1.1 hF.1.2.1 hd (k p e s m args below meth c H locs la hF hM)
theorem AW_imul {x y : Int32} (hd : decode M.2.1 pc = .ok (.imul, 1)) (k : AW l M R G Qf A cs ss (pc + 1) ls (.int (x * y) :: st)) : AW l M R G Qf A cs ss pc ls (.int y :: .int x :: st) := by
  intro p e s m args below meth c H locs la hF hM
  exact lv_imul hF.1.1 hF.1.2.1 hd (k p e s m args below meth c H locs la hF hM)
theorem AW_iand {x y : Int32} (hd : decode M.2.1 pc = .ok (.iand, 1)) (k : AW l M R G Qf A cs ss (pc + 1) ls (.int (x &&& y) :: st)) : AW l M R G Qf A cs ss pc ls (.int y :: .int x :: st) := by
  intro p e s m args below meth c H locs la hF hM
  exact lv_iand hF.1.1 hF.1.2.1 hd (k p e s m args below meth c H locs la hF hM)
theorem AW_ior {x y : Int32} (hd : decode M.2.1 pc = .ok (.ior, 1)) (k : AW l M R G Qf A cs ss (pc + 1) ls (.int (x ||| y) :: st)) : AW l M R G Qf A cs ss pc ls (.int y :: .int x :: st) := by
  intro p e s m args below meth c H locs la hF hM
  exact lv_ior hF.1.1 hF.1.2.1 hd (k p e s m args below meth c H locs la hF hM)
theorem AW_ishl {x y : Int32} (hd : decode M.2.1 pc = .ok (.ishl, 1)) (k : AW l M R G Qf A cs ss (pc + 1) ls (.int (x <<< (y &&& 31)) :: st)) : AW l M R G Qf A cs ss pc ls (.int y :: .int x :: st) := by
  intro p e s m args below meth c H locs la hF hM
  exact lv_ishl hF.1.1 hF.1.2.1 hd (k p e s m args below meth c H locs la hF hM)
theorem AW_ishr {x y : Int32} (hd : decode M.2.1 pc = .ok (.ishr, 1)) (k : AW l M R G Qf A cs ss (pc + 1) ls (.int (x >>> (y &&& 31)) :: st)) : AW l M R G Qf A cs ss pc ls (.int y :: .int x :: st) := by
  intro p e s m args below meth c H locs la hF hM
  exact lv_ishr hF.1.1 hF.1.2.1 hd (k p e s m args below meth c H locs la hF hM)
theorem AW_iushr {x y : Int32} (hd : decode M.2.1 pc = .ok (.iushr, 1)) (k : AW l M R G Qf A cs ss (pc + 1) ls (.int ((x.toUInt32 >>> (y.toUInt32 &&& Int32.toUInt32 31)).toInt32) :: st)) : AW l M R G Qf A cs ss pc ls (.int y :: .int x :: st) := by
  intro p e s m args below meth c H locs la hF hM
  exact lv_iushr hF.1.1 hF.1.2.1 hd rfl (k p e s m args below meth c H locs la hF hM)
theorem AW_ineg {x : Int32} (hd : decode M.2.1 pc = .ok (.ineg, 1)) (k : AW l M R G Qf A cs ss (pc + 1) ls (.int (-x) :: st)) : AW l M R G Qf A cs ss pc ls (.int x :: st) := by
  intro p e s m args below meth c H locs la hF hM
  exact lv_ineg hF.1.1 hF.1.2.1 hd (k p e s m args below meth c H locs la hF hM)
theorem AW_ladd {x y : Int64} (hd : decode M.2.1 pc = .ok (.ladd, 1)) (k : AW l M R G Qf A cs ss (pc + 1) ls (.long (x + y) :: st)) : AW l M R G Qf A cs ss pc ls (.long y :: .long x :: st) := by
  intro p e s m args below meth c H locs la hF hM
  exact lv_ladd hF.1.1 hF.1.2.1 hd (k p e s m args below meth c H locs la hF hM)
theorem AW_land {x y : Int64} (hd : decode M.2.1 pc = .ok (.land, 1)) (k : AW l M R G Qf A cs ss (pc + 1) ls (.long (x &&& y) :: st)) : AW l M R G Qf A cs ss pc ls (.long y :: .long x :: st) := by
  intro p e s m args below meth c H locs la hF hM
  exact lv_land hF.1.1 hF.1.2.1 hd (k p e s m args below meth c H locs la hF hM)
theorem AW_lor {x y : Int64} (hd : decode M.2.1 pc = .ok (.lor, 1)) (k : AW l M R G Qf A cs ss (pc + 1) ls (.long (x ||| y) :: st)) : AW l M R G Qf A cs ss pc ls (.long y :: .long x :: st) := by
  intro p e s m args below meth c H locs la hF hM
  exact lv_lor hF.1.1 hF.1.2.1 hd (k p e s m args below meth c H locs la hF hM)
theorem AW_lshl {x : Int64} {y : Int32} (hd : decode M.2.1 pc = .ok (.lshl, 1)) (k : AW l M R G Qf A cs ss (pc + 1) ls (.long (x <<< (y.toInt64 &&& 63)) :: st)) : AW l M R G Qf A cs ss pc ls (.int y :: .long x :: st) := by
  intro p e s m args below meth c H locs la hF hM
  exact lv_lshl hF.1.1 hF.1.2.1 hd rfl (k p e s m args below meth c H locs la hF hM)
theorem AW_lshr {x : Int64} {y : Int32} (hd : decode M.2.1 pc = .ok (.lshr, 1)) (k : AW l M R G Qf A cs ss (pc + 1) ls (.long (x >>> (y.toInt64 &&& 63)) :: st)) : AW l M R G Qf A cs ss pc ls (.int y :: .long x :: st) := by
  intro p e s m args below meth c H locs la hF hM
  exact lv_lshr hF.1.1 hF.1.2.1 hd rfl (k p e s m args below meth c H locs la hF hM)
theorem AW_i2l {x : Int32} (hd : decode M.2.1 pc = .ok (.i2l, 1)) (k : AW l M R G Qf A cs ss (pc + 1) ls (.long x.toInt64 :: st)) : AW l M R G Qf A cs ss pc ls (.int x :: st) := by
  intro p e s m args below meth c H locs la hF hM
  exact lv_i2l hF.1.1 hF.1.2.1 hd rfl (k p e s m args below meth c H locs la hF hM)
theorem AW_l2i {x : Int64} (hd : decode M.2.1 pc = .ok (.l2i, 1)) (k : AW l M R G Qf A cs ss (pc + 1) ls (.int x.toInt32 :: st)) : AW l M R G Qf A cs ss pc ls (.long x :: st) := by
  intro p e s m args below meth c H locs la hF hM
  exact lv_l2i hF.1.1 hF.1.2.1 hd rfl (k p e s m args below meth c H locs la hF hM)
theorem AW_i2b {x : Int32} (hd : decode M.2.1 pc = .ok (.i2b, 1)) (k : AW l M R G Qf A cs ss (pc + 1) ls (.int x.toInt8.toInt32 :: st)) : AW l M R G Qf A cs ss pc ls (.int x :: st) := by
  intro p e s m args below meth c H locs la hF hM
  exact lv_i2b hF.1.1 hF.1.2.1 hd rfl (k p e s m args below meth c H locs la hF hM)
theorem AW_i2s {x : Int32} (hd : decode M.2.1 pc = .ok (.i2s, 1)) (k : AW l M R G Qf A cs ss (pc + 1) ls (.int x.toInt16.toInt32 :: st)) : AW l M R G Qf A cs ss pc ls (.int x :: st) := by
  intro p e s m args below meth c H locs la hF hM
  exact lv_i2s hF.1.1 hF.1.2.1 hd rfl (k p e s m args below meth c H locs la hF hM)
theorem AW_i2c {x : Int32} (hd : decode M.2.1 pc = .ok (.i2c, 1)) (k : AW l M R G Qf A cs ss (pc + 1) ls (.int (x.toUInt32 % 65536).toInt32 :: st)) : AW l M R G Qf A cs ss pc ls (.int x :: st) := by
  intro p e s m args below meth c H locs la hF hM
  exact lv_i2c hF.1.1 hF.1.2.1 hd rfl (k p e s m args below meth c H locs la hF hM)
theorem AW_lcmp {x y : Int64} (hd : decode M.2.1 pc = .ok (.lcmp, 1)) (k : AW l M R G Qf A cs ss (pc + 1) ls (.int (lg_cmp x y) :: st)) : AW l M R G Qf A cs ss pc ls (.long y :: .long x :: st) := by
  intro p e s m args below meth c H locs la hF hM
  exact W.lcmp hF.1.1 hF.1.2.1 hd (k p e s m args below meth c H locs la hF hM)
theorem AW_null  (hd : decode M.2.1 pc = .ok (.aconst_null, 1)) (k : AW l M R G Qf A cs ss (pc + 1) ls (va_rf none :: st)) : AW l M R G Qf A cs ss pc ls (st) := by
  intro p e s m args below meth c H locs la hF hM
  exact lv_null hF.1.1 hF.1.2.1 hd (k p e s m args below meth c H locs la hF hM)
end AWR
end
section
/-! the dec side: what a heap access gives (none: it can't be done) -/
def oI (A : hP) (r : Option Nat) (ci k : Nat) : Option Int32 := match r with
  | none => none
  | some p => match A[p]? with
    | some (.inr (c, fs)) => if c = ci then (match fs[k]? with
      | some (.int x) => some x
      | _ => none) else none
    | _ => none
def oR (A : hP) (r : Option Nat) (ci k : Nat) : Option (Option Nat) := match r with
  | none => none
  | some p => match A[p]? with
    | some (.inr (c, fs)) => if c = ci then (match fs[k]? with
      | some (.ref x) => some (some x)
      | some .null => some none
      | _ => none) else none
    | _ => none
/-- the same of a thing, whichever it is -/
def isTh (c : Nat) : Bool := c == 1 || c == 4 || c == 5 || c == 7 || c == 8
def oT (A : hP) (r : Option Nat) (k : Nat) : Option Int32 := match r with
  | none => none
  | some p => match A[p]? with
    | some (.inr (c, fs)) => if isTh c then (match fs[k]? with
      | some (.int x) => some x
      | _ => none) else none
    | _ => none
def oC (A : hP) (r : Option Nat) : Option Nat := match r with
  | none => none
  | some p => match A[p]? with
    | some (.inr (c, _)) => some c
    | _ => none
def oP (A : hP) (r : Option Nat) (ci k : Nat) (v : Value) : Option hP := match r with
  | none => none
  | some p => match A[p]? with
    | some (.inr (c, fs)) => if c = ci ∧ k < fs.length then some (A.set p (.inr (ci, fs.set k v))) else none
    | _ => none
def oPz (A : hP) (r : Option Nat) (ci k : Nat) (x : Int32) : Option hP := if x = 0 ∨ x = 1 then oP A r ci k (.int x) else none
def oA (A : hP) (r : Option Nat) (t : Nat) (i : Int32) : Option Int32 := match r with
  | none => none
  | some p => match A[p]? with
    | some (.inl (t', n, .inl f)) => if t' = t ∧ ¬ (i < 0 ∨ n ≤ i.toNatClampNeg) then some (f i.toNatClampNeg) else none
    | _ => none
def oQ (A : hP) (r : Option Nat) (t : Nat) (i : Int32) : Option (Option Nat) := match r with
  | none => none
  | some p => match A[p]? with
    | some (.inl (t', n, .inr (.inr (.inr (.inr f))))) => if t' = t ∧ ¬ (i < 0 ∨ n ≤ i.toNatClampNeg) then some (f i.toNatClampNeg) else none
    | _ => none
def oS (A : hP) (r : Option Nat) (t : Nat) (i x : Int32) : Option hP := match r with
  | none => none
  | some p => match A[p]? with
    | some (.inl (t', n, .inl f)) => if t' = t ∧ ¬ (i < 0 ∨ n ≤ i.toNatClampNeg) then some (A.set p (.inl (t, n, .inl (upd f i.toNatClampNeg x)))) else none
    | _ => none
def oU (A : hP) (r : Option Nat) (t : Nat) (i : Int32) (v : Option Nat) : Option hP := match r with
  | none => none
  | some p => match A[p]? with
    | some (.inl (t', n, .inr (.inr (.inr (.inr f))))) => if t' = t ∧ ¬ (i < 0 ∨ n ≤ i.toNatClampNeg) then some (A.set p (.inl (t, n, .inr (.inr (.inr (.inr (va_up f i.toNatClampNeg v))))))) else none
    | _ => none
def oN (A : hP) (r : Option Nat) (t : Nat) : Option Int32 := match r with
  | none => none
  | some p => match A[p]? with
    | some (.inl (t', n, .inl _)) => if t' = t then some (Int32.ofNat n) else none
    | _ => none
/-- System.arraycopy of int rows -/
def oK (A : hP) (r : Option Nat) (i : Int32) (q : Option Nat) (j n : Int32) : Option hP := match r, q with
  | some a, some b => match A[a]?, A[b]? with
    | some (.inl (t, m, .inl f)), some (.inl (t', m', .inl g)) =>
      if t = 0 ∧ t' = 0 ∧ ¬ i < 0 ∧ ¬ j < 0 ∧ ¬ n < 0 ∧ i.toNatClampNeg + n.toNatClampNeg ≤ m ∧ j.toNatClampNeg + n.toNatClampNeg ≤ m' then some (A.set b (.inl (0, m', .inl (va_cpy f g i.toNatClampNeg j.toNatClampNeg n.toNatClampNeg)))) else none
    | _, _ => none
  | _, _ => none
/-- a class place is an instance of another, among the things -/
def isOf (c t : Nat) : Bool := c == t || (t == 4 && (c == 1 || c == 8)) || (t == 5 && c == 7)
theorem oI_s {A : hP} {r : Option Nat} {ci k : Nat} {x : Int32} (h : oI A r ci k = some x) : ∃ p fs, r = some p ∧ A[p]? = some (.inr (ci, fs)) ∧ fs[k]? = some (.int x) := by
  unfold oI at h
  split at h
  · cases h
  · split at h
    · split at h
      · split at h
        · cases h; subst_vars; exact ⟨_, _, rfl, by assumption, by assumption⟩
        · cases h
      · cases h
    · cases h
theorem oR_s {A : hP} {r : Option Nat} {ci k : Nat} {x : Option Nat} (h : oR A r ci k = some x) : ∃ p fs, r = some p ∧ A[p]? = some (.inr (ci, fs)) ∧ fs[k]? = some (va_rf x) := by
  unfold oR at h
  split at h
  · cases h
  · split at h
    · split at h
      · split at h
        · cases h; subst_vars; exact ⟨_, _, rfl, by assumption, by assumption⟩
        · cases h; subst_vars; exact ⟨_, _, rfl, by assumption, by assumption⟩
        · cases h
      · cases h
    · cases h
theorem oT_s {A : hP} {r : Option Nat} {k : Nat} {x : Int32} (h : oT A r k = some x) : ∃ p c fs, r = some p ∧ A[p]? = some (.inr (c, fs)) ∧ isTh c = true ∧ fs[k]? = some (.int x) := by
  unfold oT at h
  split at h
  · cases h
  · split at h
    · split at h
      · split at h
        · cases h; exact ⟨_, _, _, rfl, by assumption, by assumption, by assumption⟩
        · cases h
      · cases h
    · cases h
theorem oC_s {A : hP} {r : Option Nat} {c : Nat} (h : oC A r = some c) : ∃ p fs, r = some p ∧ A[p]? = some (.inr (c, fs)) := by
  unfold oC at h
  split at h
  · cases h
  · split at h
    · cases h; exact ⟨_, _, rfl, by assumption⟩
    · cases h
theorem oP_s {A A' : hP} {r : Option Nat} {ci k : Nat} {v : Value} (h : oP A r ci k v = some A') : ∃ p fs, r = some p ∧ A[p]? = some (.inr (ci, fs)) ∧ k < fs.length ∧ A' = A.set p (.inr (ci, fs.set k v)) := by
  unfold oP at h
  split at h
  · cases h
  · split at h
    · split at h
      · rename_i h2 h3
        obtain ⟨rfl, h4⟩ := h3
        cases h; exact ⟨_, _, rfl, h2, h4, rfl⟩
      · cases h
    · cases h
theorem oA_s {A : hP} {r : Option Nat} {t : Nat} {i x : Int32} (h : oA A r t i = some x) : ∃ p n f, r = some p ∧ A[p]? = some (.inl (t, n, .inl f)) ∧ vp_in i n ∧ x = f i.toNatClampNeg := by
  unfold oA at h
  split at h
  · cases h
  · split at h
    · split at h
      · rename_i h2 h3
        obtain ⟨rfl, h4⟩ := h3
        cases h; exact ⟨_, _, _, rfl, h2, h4, rfl⟩
      · cases h
    · cases h
theorem oQ_s {A : hP} {r : Option Nat} {t : Nat} {i : Int32} {x : Option Nat} (h : oQ A r t i = some x) : ∃ p n f, r = some p ∧ A[p]? = some (.inl (t, n, .inr (.inr (.inr (.inr f))))) ∧ vp_in i n ∧ x = f i.toNatClampNeg := by
  unfold oQ at h
  split at h
  · cases h
  · split at h
    · split at h
      · rename_i h2 h3
        obtain ⟨rfl, h4⟩ := h3
        cases h; exact ⟨_, _, _, rfl, h2, h4, rfl⟩
      · cases h
    · cases h
theorem oS_s {A A' : hP} {r : Option Nat} {t : Nat} {i x : Int32} (h : oS A r t i x = some A') : ∃ p n f, r = some p ∧ A[p]? = some (.inl (t, n, .inl f)) ∧ vp_in i n ∧ A' = A.set p (.inl (t, n, .inl (upd f i.toNatClampNeg x))) := by
  unfold oS at h
  split at h
  · cases h
  · split at h
    · split at h
      · rename_i h2 h3
        obtain ⟨rfl, h4⟩ := h3
        cases h; exact ⟨_, _, _, rfl, h2, h4, rfl⟩
      · cases h
    · cases h
theorem oU_s {A A' : hP} {r v : Option Nat} {t : Nat} {i : Int32} (h : oU A r t i v = some A') : ∃ p n f, r = some p ∧ A[p]? = some (.inl (t, n, .inr (.inr (.inr (.inr f))))) ∧ vp_in i n ∧ A' = A.set p (.inl (t, n, .inr (.inr (.inr (.inr (va_up f i.toNatClampNeg v)))))) := by
  unfold oU at h
  split at h
  · cases h
  · split at h
    · split at h
      · rename_i h2 h3
        obtain ⟨rfl, h4⟩ := h3
        cases h; exact ⟨_, _, _, rfl, h2, h4, rfl⟩
      · cases h
    · cases h
theorem oN_s {A : hP} {r : Option Nat} {t : Nat} {x : Int32} (h : oN A r t = some x) : ∃ p n f, r = some p ∧ A[p]? = some (.inl (t, n, .inl f)) ∧ x = Int32.ofNat n := by
  unfold oN at h
  split at h
  · cases h
  · split at h
    · split at h
      · rename_i h2 h3
        subst h3
        cases h; exact ⟨_, _, _, rfl, h2, rfl⟩
      · cases h
    · cases h
theorem oK_s {A A' : hP} {r q : Option Nat} {i j n : Int32} (h : oK A r i q j n = some A') : ∃ a b m m' f g, r = some a ∧ q = some b ∧ A[a]? = some (.inl (0, m, .inl f)) ∧ A[b]? = some (.inl (0, m', .inl g)) ∧ ¬ i < 0 ∧ ¬ j < 0 ∧ ¬ n < 0 ∧ i.toNatClampNeg + n.toNatClampNeg ≤ m ∧ j.toNatClampNeg + n.toNatClampNeg ≤ m' ∧ A' = A.set b (.inl (0, m', .inl (va_cpy f g i.toNatClampNeg j.toNatClampNeg n.toNatClampNeg))) := by
  unfold oK at h
  split at h
  · split at h
    · split at h
      · rename_i h1 h2 h3
        obtain ⟨rfl, rfl, h4, h5, h6, h7, h8⟩ := h3
        cases h; exact ⟨_, _, _, _, _, _, rfl, rfl, h1, h2, h4, h5, h6, h7, h8, rfl⟩
      · cases h
    · cases h
  · cases h
theorem bd {α β : Type} {o : Option α} {f : α → Option β} {r : β} (h : o.bind f = some r) : ∃ x, o = some x ∧ f x = some r := by
  cases o with
  | none => cases h
  | some x => exact ⟨x, rfl, h⟩
section AWR
variable {l : Launch} {M : gM} {R : Room} {G : gS} {Qf : Array Value → State → List Frame → State → Prop} {A : hP} {cs ss pc : Nat} {ls : List (Option Value)} {st : List Value} {α β : Type} {res : β}
-- locals
theorem AW_iload {i : Nat} {x : Int32} (hd : decode M.2.1 pc = .ok (.iload i, 2)) (hl : ls[i]? = some (some (.int x))) (k : AW l M R G Qf A cs ss (pc + 2) ls (.int x :: st)) : AW l M R G Qf A cs ss pc ls st := by
  intro p e s m args below meth c H locs la hF hM
  exact lv_iload hF.1.1 hF.1.2.1 hd (hM.2.2.2.2.2.2 _ _ hl) (k p e s m args below meth c H locs la hF hM)
theorem AW_iload_n {i : Fin 4} {x : Int32} (hd : decode M.2.1 pc = .ok (.iload_n i, 1)) (hl : ls[(i : Nat)]? = some (some (.int x))) (k : AW l M R G Qf A cs ss (pc + 1) ls (.int x :: st)) : AW l M R G Qf A cs ss pc ls st := by
  intro p e s m args below meth c H locs la hF hM
  exact lv_iload_n hF.1.1 hF.1.2.1 hd rfl (hM.2.2.2.2.2.2 _ _ hl) (k p e s m args below meth c H locs la hF hM)
theorem AW_lload {i : Nat} {x : Int64} (hd : decode M.2.1 pc = .ok (.lload i, 2)) (hl : ls[i]? = some (some (.long x))) (k : AW l M R G Qf A cs ss (pc + 2) ls (.long x :: st)) : AW l M R G Qf A cs ss pc ls st := by
  intro p e s m args below meth c H locs la hF hM
  exact lv_lload hF.1.1 hF.1.2.1 hd (hM.2.2.2.2.2.2 _ _ hl) (k p e s m args below meth c H locs la hF hM)
theorem AW_lload_n {i : Fin 4} {x : Int64} (hd : decode M.2.1 pc = .ok (.lload_n i, 1)) (hl : ls[(i : Nat)]? = some (some (.long x))) (k : AW l M R G Qf A cs ss (pc + 1) ls (.long x :: st)) : AW l M R G Qf A cs ss pc ls st := by
  intro p e s m args below meth c H locs la hF hM
  exact lv_lload_n hF.1.1 hF.1.2.1 hd rfl (hM.2.2.2.2.2.2 _ _ hl) (k p e s m args below meth c H locs la hF hM)
theorem AW_aload {i : Nat} {x : Option Nat} (hd : decode M.2.1 pc = .ok (.aload i, 2)) (hl : ls[i]? = some (some (va_rf x))) (k : AW l M R G Qf A cs ss (pc + 2) ls (va_rf x :: st)) : AW l M R G Qf A cs ss pc ls st := by
  intro p e s m args below meth c H locs la hF hM
  have h1 := hM.2.2.2.2.2.2 _ _ hl
  have h2 := k p e s m args below meth c H locs la hF hM
  cases x with
  | none => exact lv_aloadN hF.1.1 hF.1.2.1 hd h1 h2
  | some a => exact lv_aload hF.1.1 hF.1.2.1 hd h1 h2
theorem AW_aload_n {i : Fin 4} {x : Option Nat} (hd : decode M.2.1 pc = .ok (.aload_n i, 1)) (hl : ls[(i : Nat)]? = some (some (va_rf x))) (k : AW l M R G Qf A cs ss (pc + 1) ls (va_rf x :: st)) : AW l M R G Qf A cs ss pc ls st := by
  intro p e s m args below meth c H locs la hF hM
  have h1 := hM.2.2.2.2.2.2 _ _ hl
  have h2 := k p e s m args below meth c H locs la hF hM
  cases x with
  | none => exact lv_aload_nN hF.1.1 hF.1.2.1 hd rfl h1 h2
  | some a => exact lv_aload_n hF.1.1 hF.1.2.1 hd rfl h1 h2
/-- the place ahead holds no long -/
def g_c1 (ls : List (Option Value)) (i : Nat) : Prop := ∀ (j : Nat) (w : Value), j + 1 = i → ls[j]? = some (some w) → w.category = 1
theorem c1_0 {ls : List (Option Value)} : g_c1 ls 0 := fun j w h => by omega
theorem c1_n {ls : List (Option Value)} {i : Nat} (h : ls[i]? = some none) : g_c1 ls (i + 1) := fun j w hj hw => by
  cases (show j = i by omega); rw [h] at hw; cases hw
theorem c1_i {ls : List (Option Value)} {i : Nat} {x : Int32} (h : ls[i]? = some (some (.int x))) : g_c1 ls (i + 1) := fun j w hj hw => by
  cases (show j = i by omega); rw [h] at hw; cases hw; rfl
theorem c1_r {ls : List (Option Value)} {i : Nat} {x : Option Nat} (h : ls[i]? = some (some (va_rf x))) : g_c1 ls (i + 1) := fun j w hj hw => by
  cases (show j = i by omega); rw [h] at hw; cases hw; exact g_cat_rf x
/-- the listed locals, as pairs -/
def g_pr (G : gS) (ls : List (Option Value)) : List (Nat × Value) := (List.range ls.length).filterMap (fun i => match ls[i]? with
  | some (some v) => some (i, g_em G v)
  | _ => none)
theorem g_pr_mem {G : gS} {ls : List (Option Value)} {i : Nat} {v : Value} (h : ls[i]? = some (some v)) : (i, g_em G v) ∈ g_pr G ls := by
  unfold g_pr
  refine List.mem_filterMap.mpr ⟨i, List.mem_range.mpr (List.getElem?_eq_some_iff.mp h).1, ?_⟩
  simp [h]
theorem g_pr_of {G : gS} {ls : List (Option Value)} {q : Nat × Value} (h : q ∈ g_pr G ls) : ∃ v, ls[q.1]? = some (some v) ∧ q.2 = g_em G v := by
  unfold g_pr at h
  obtain ⟨i, -, h⟩ := List.mem_filterMap.mp h
  split at h
  · cases h; exact ⟨_, by assumption, rfl⟩
  · cases h
theorem g_L.has {G : gS} {nL : Nat} {ls : List (Option Value)} {la : Array Slot} (h : g_L G nL ls la) : lv_has la nL (g_pr G ls) :=
  ⟨h.1, h.2.1, fun q hq => by obtain ⟨v, h1, h2⟩ := g_pr_of hq; rw [h2]; exact h.2.2 _ _ h1⟩
theorem g_L.st1 {G : gS} {nL i : Nat} {v : Value} {ls : List (Option Value)} {la : Array Slot} (hc : g_c1 ls i) (h : lv_has la nL ((i, g_em G v) :: (g_pr G ls).filter (fun q => !(q.1 == i) && !(q.1 + 1 == i && q.2.category == 2)))) : g_L G nL (ls.set i (some v)) la := by
  refine ⟨h.1, h.2.1, fun j w hj => ?_⟩
  by_cases hij : i = j
  · subst hij
    rw [List.getElem?_set] at hj
    split at hj
    · split at hj
      · cases hj; exact h.2.2 (i, g_em G v) List.mem_cons_self
      · cases hj
    · rename_i h2; exact absurd rfl h2
  · rw [List.getElem?_set_ne hij] at hj
    refine h.2.2 (j, g_em G w) (List.mem_cons_of_mem _ (List.mem_filter.mpr ⟨g_pr_mem hj, ?_⟩))
    have h3 : (j == i) = false := by simp; exact fun e => hij e.symm
    by_cases h4 : j + 1 = i
    · have h5 := hc j w h4 hj
      simp [h3, g_em_cat, h5]
    · simp [h3, h4]
theorem g_L.st2 {G : gS} {nL i : Nat} {v : Value} {ls : List (Option Value)} {la : Array Slot} (hc : g_c1 ls i) (h : lv_has la nL ((i, g_em G v) :: (g_pr G ls).filter (fun q => !(q.1 == i) && (!(q.1 == i + 1) && !(q.1 + 1 == i && q.2.category == 2))))) : g_L G nL ((ls.set i (some v)).set (i + 1) none) la := by
  refine ⟨h.1, h.2.1, fun j w hj => ?_⟩
  by_cases hij1 : i + 1 = j
  · subst hij1
    rw [List.getElem?_set] at hj
    split at hj
    · split at hj
      · cases hj
      · cases hj
    · rename_i h2; exact absurd rfl h2
  rw [List.getElem?_set_ne hij1] at hj
  by_cases hij : i = j
  · subst hij
    rw [List.getElem?_set] at hj
    split at hj
    · split at hj
      · cases hj; exact h.2.2 (i, g_em G v) List.mem_cons_self
      · cases hj
    · rename_i h2; exact absurd rfl h2
  · rw [List.getElem?_set_ne hij] at hj
    refine h.2.2 (j, g_em G w) (List.mem_cons_of_mem _ (List.mem_filter.mpr ⟨g_pr_mem hj, ?_⟩))
    have h3 : (j == i) = false := by simp; exact fun e => hij e.symm
    have h6 : (j == i + 1) = false := by simp; exact fun e => hij1 e.symm
    by_cases h4 : j + 1 = i
    · have h5 := hc j w h4 hj
      simp [h3, h6, g_em_cat, h5]
    · simp [h3, h6, h4]
theorem AW_istore {i : Nat} {x : Int32} {ls' : List (Option Value)} (hd : decode M.2.1 pc = .ok (.istore i, 2)) (hc : g_c1 ls i) (hn : i < M.2.2.1) (hl : ls.set i (some (.int x)) = ls') (k : AW l M R G Qf A cs ss (pc + 2) ls' st) : AW l M R G Qf A cs ss pc ls (.int x :: st) := by
  intro p e s m args below meth c H locs la hF hM
  subst hl
  exact lv_istore hF.1.1 hF.1.2.1 hd hM.2.2.2.2.has hn rfl fun la' h' => k p e s m args below meth c H locs la' hF ⟨hM.1, hM.2.1, hM.2.2.1, hM.2.2.2.1, g_L.st1 (v := .int x) hc h'⟩
theorem AW_istore_n {i : Fin 4} {x : Int32} {ls' : List (Option Value)} (hd : decode M.2.1 pc = .ok (.istore_n i, 1)) (hc : g_c1 ls (i : Nat)) (hn : (i : Nat) < M.2.2.1) (hl : ls.set (i : Nat) (some (.int x)) = ls') (k : AW l M R G Qf A cs ss (pc + 1) ls' st) : AW l M R G Qf A cs ss pc ls (.int x :: st) := by
  intro p e s m args below meth c H locs la hF hM
  subst hl
  exact lv_istore_n hF.1.1 hF.1.2.1 hd rfl hM.2.2.2.2.has hn rfl fun la' h' => k p e s m args below meth c H locs la' hF ⟨hM.1, hM.2.1, hM.2.2.1, hM.2.2.2.1, g_L.st1 (v := .int x) hc h'⟩
theorem AW_lstore_n {i : Fin 4} {x : Int64} {ls' : List (Option Value)} (hd : decode M.2.1 pc = .ok (.lstore_n i, 1)) (hc : g_c1 ls (i : Nat)) (hn : (i : Nat) + 1 < M.2.2.1) (hl : (ls.set (i : Nat) (some (.long x))).set ((i : Nat) + 1) none = ls') (k : AW l M R G Qf A cs ss (pc + 1) ls' st) : AW l M R G Qf A cs ss pc ls (.long x :: st) := by
  intro p e s m args below meth c H locs la hF hM
  subst hl
  exact lv_lstore_n hF.1.1 hF.1.2.1 hd rfl hM.2.2.2.2.has hn rfl fun la' h' => k p e s m args below meth c H locs la' hF ⟨hM.1, hM.2.1, hM.2.2.1, hM.2.2.2.1, g_L.st2 (v := .long x) hc h'⟩
theorem AW_astore {i : Nat} {x : Option Nat} {ls' : List (Option Value)} (hd : decode M.2.1 pc = .ok (.astore i, 2)) (hc : g_c1 ls i) (hn : i < M.2.2.1) (hl : ls.set i (some (va_rf x)) = ls') (k : AW l M R G Qf A cs ss (pc + 2) ls' st) : AW l M R G Qf A cs ss pc ls (va_rf x :: st) := by
  intro p e s m args below meth c H locs la hF hM
  subst hl
  cases x with
  | none => exact lv_astoreN hF.1.1 hF.1.2.1 hd hM.2.2.2.2.has hn rfl fun la' h' => k p e s m args below meth c H locs la' hF ⟨hM.1, hM.2.1, hM.2.2.1, hM.2.2.2.1, g_L.st1 (v := va_rf none) hc h'⟩
  | some a => exact lv_astore hF.1.1 hF.1.2.1 hd hM.2.2.2.2.has hn rfl fun la' h' => k p e s m args below meth c H locs la' hF ⟨hM.1, hM.2.1, hM.2.2.1, hM.2.2.2.1, g_L.st1 (v := va_rf (some a)) hc h'⟩
theorem AW_astore_n {i : Fin 4} {x : Option Nat} {ls' : List (Option Value)} (hd : decode M.2.1 pc = .ok (.astore_n i, 1)) (hc : g_c1 ls (i : Nat)) (hn : (i : Nat) < M.2.2.1) (hl : ls.set (i : Nat) (some (va_rf x)) = ls') (k : AW l M R G Qf A cs ss (pc + 1) ls' st) : AW l M R G Qf A cs ss pc ls (va_rf x :: st) := by
  intro p e s m args below meth c H locs la hF hM
  subst hl
  cases x with
  | none => exact lv_astore_nN hF.1.1 hF.1.2.1 hd rfl hM.2.2.2.2.has hn rfl fun la' h' => k p e s m args below meth c H locs la' hF ⟨hM.1, hM.2.1, hM.2.2.1, hM.2.2.2.1, g_L.st1 (v := va_rf none) hc h'⟩
  | some a => exact lv_astore_n hF.1.1 hF.1.2.1 hd rfl hM.2.2.2.2.has hn rfl fun la' h' => k p e s m args below meth c H locs la' hF ⟨hM.1, hM.2.1, hM.2.2.1, hM.2.2.2.1, g_L.st1 (v := va_rf (some a)) hc h'⟩
theorem AW_iinc {i : Nat} {n : Int} {x v : Int32} {ls' : List (Option Value)} (hd : decode M.2.1 pc = .ok (.iinc i n, 3)) (hx : ls[i]? = some (some (.int x))) (hc : g_c1 ls i) (hn : i < M.2.2.1) (hv : Int32.ofInt n = v) (hl : ls.set i (some (.int (x + v))) = ls') (k : AW l M R G Qf A cs ss (pc + 3) ls' st) : AW l M R G Qf A cs ss pc ls st := by
  intro p e s m args below meth c H locs la hF hM
  subst hl
  subst hv
  obtain ⟨j, hj⟩ := List.getElem?_of_mem (g_pr_mem (G := G) hx)
  exact lv_iinc hF.1.1 hF.1.2.1 hd hM.2.2.2.2.has hj rfl hn rfl fun la' h' => k p e s m args below meth c H locs la' hF ⟨hM.1, hM.2.1, hM.2.2.1, hM.2.2.2.1, g_L.st1 (v := .int (x + Int32.ofInt n)) hc h'⟩
/-- fewer locals are listed -/
theorem AW_fewer {ls' : List (Option Value)} (h : ∀ (i : Nat) (v : Value), ls'[i]? = some (some v) → ls[i]? = some (some v)) (k : AW l M R G Qf A cs ss pc ls' st) : AW l M R G Qf A cs ss pc ls st := by
  intro p e s m args below meth c H locs la hF hM
  exact k p e s m args below meth c H locs la hF ⟨hM.1, hM.2.1, hM.2.2.1, hM.2.2.2.1, hM.2.2.2.2.1, hM.2.2.2.2.2.1, fun i v hv => hM.2.2.2.2.2.2 i v (h i v hv)⟩
theorem AW_dup {v : Value} (hd : decode M.2.1 pc = .ok (.dup, 1)) (hv : v.category = 1) (k : AW l M R G Qf A cs ss (pc + 1) ls (v :: v :: st)) : AW l M R G Qf A cs ss pc ls (v :: st) := by
  intro p e s m args below meth c H locs la hF hM
  exact lv_dup hF.1.1 hF.1.2.1 hd (by rw [g_em_cat]; exact hv) (k p e s m args below meth c H locs la hF hM)
theorem AW_dup2 {v w : Value} (hd : decode M.2.1 pc = .ok (.dup2, 1)) (hv : v.category = 1) (hw : w.category = 1) (k : AW l M R G Qf A cs ss (pc + 1) ls (v :: w :: v :: w :: st)) : AW l M R G Qf A cs ss pc ls (v :: w :: st) := by
  intro p e s m args below meth c H locs la hF hM
  exact lv_dup2_11 hF.1.1 hF.1.2.1 hd (by rw [g_em_cat]; exact hv) (by rw [g_em_cat]; exact hw) (k p e s m args below meth c H locs la hF hM)
theorem AW_pop {v : Value} (hd : decode M.2.1 pc = .ok (.pop, 1)) (hv : v.category = 1) (k : AW l M R G Qf A cs ss (pc + 1) ls st) : AW l M R G Qf A cs ss pc ls (v :: st) := by
  intro p e s m args below meth c H locs la hF hM
  exact lv_pop hF.1.1 hF.1.2.1 hd (by rw [g_em_cat]; exact hv) (k p e s m args below meth c H locs la hF hM)
theorem AW_goto {off : Int} {tgt : Nat} (hd : decode M.2.1 pc = .ok (.goto off, 3)) (ht : (pc : Int) + off = (tgt : Int)) (k : AW l M R G Qf A cs ss tgt ls st) : AW l M R G Qf A cs ss pc ls st := by
  intro p e s m args below meth c H locs la hF hM
  exact lv_goto hF.1.1 hF.1.2.1 hd ht (k p e s m args below meth c H locs la hF hM)
theorem AW_ldc {i : Nat} {v : Int32} (hd : decode M.2.1 pc = .ok (.ldc i, 2)) (hw : Cond.constant M.1.cls i v ∈ M.2.2.2.2) (k : AW l M R G Qf A cs ss (pc + 2) ls (.int v :: st)) : AW l M R G Qf A cs ss pc ls st := by
  intro p e s m args below meth c H locs la hF hM
  exact lv_ldc hF.1.1 hF.1.2.1 hF.1.2.2.2.2.1 (hF.1.2.2.2.2.2.1 _ hw) hd (k p e s m args below meth c H locs la hF hM)
theorem AW_ldcw {i : Nat} {v : Int32} (hd : decode M.2.1 pc = .ok (.ldc_w i, 3)) (hw : Cond.constant M.1.cls i v ∈ M.2.2.2.2) (k : AW l M R G Qf A cs ss (pc + 3) ls (.int v :: st)) : AW l M R G Qf A cs ss pc ls st := by
  intro p e s m args below meth c H locs la hF hM
  exact lv_ldcw hF.1.1 hF.1.2.1 hF.1.2.2.2.2.1 (hF.1.2.2.2.2.2.1 _ hw) hd (k p e s m args below meth c H locs la hF hM)
theorem AW_ldc2 {i : Nat} {v : Int64} (hd : decode M.2.1 pc = .ok (.ldc2_w i, 3)) (hw : Cond.constantLong M.1.cls i v ∈ M.2.2.2.2) (k : AW l M R G Qf A cs ss (pc + 3) ls (.long v :: st)) : AW l M R G Qf A cs ss pc ls st := by
  intro p e s m args below meth c H locs la hF hM
  exact lv_ldc2 hF.1.1 hF.1.2.1 hF.1.2.2.2.2.1 (hF.1.2.2.2.2.2.1 _ hw) hd (k p e s m args below meth c H locs la hF hM)
/-- a String constant of the tape -/
theorem AW_ldcs {i j : Nat} {tx : String} (hcl : M.1.cls = RX6) (hd : decode M.2.1 pc = .ok (.ldc i, 2)) (hj : g_str[j]? = some (i, tx)) (k : AW l M R G Qf A cs ss (pc + 2) ls (va_rf (some (1000000 + j)) :: st)) : AW l M R G Qf A cs ss pc ls st := by
  intro p e s m args below meth c H locs la hF hM
  have h1 := hF.2.2.1.2.2.2.2.2.1 j (i, tx) hj
  refine va_ldcS (tx := tx) hF.1.1 hF.1.2.1 hF.1.2.2.2.2.1 (by rw [hcl]; exact h1) hd ?_
  have h2 := k p e s m args below meth c H locs la hF hM
  have h3 : g_em G (va_rf (some (1000000 + j))) = .ref (G.2.2.1 j) := by
    show Value.ref (g_ad G (1000000 + j)) = _
    unfold g_ad
    rw [if_neg (by omega), Nat.add_sub_cancel_left]
  rw [List.map_cons, h3] at h2
  exact h2
-- branches
theorem AW_if_eq {x : Int32} {T F : Option β} {off : Int} {tgt : Nat} (hd : decode M.2.1 pc = .ok (.ifCond .eq off, 3)) (ht : (pc : Int) + off = (tgt : Int)) (h : (if x = 0 then T else F) = some res) (kt : x = 0 → T = some res → AW l M R G Qf A cs ss tgt ls st) (kf : ¬ x = 0 → F = some res → AW l M R G Qf A cs ss (pc + 3) ls st) : AW l M R G Qf A cs ss pc ls (.int x :: st) := by
  intro p e s m args below meth c H locs la hF hM
  exact lv_if_eq hF.1.1 hF.1.2.1 hd ht (fun hp => kt hp (by rw [if_pos hp] at h; exact h) p e s m args below meth c H locs la hF hM) (fun hp => kf hp (by rw [if_neg hp] at h; exact h) p e s m args below meth c H locs la hF hM)
theorem AW_icmp_eq {x y : Int32} {T F : Option β} {off : Int} {tgt : Nat} (hd : decode M.2.1 pc = .ok (.if_icmp .eq off, 3)) (ht : (pc : Int) + off = (tgt : Int)) (h : (if x = y then T else F) = some res) (kt : x = y → T = some res → AW l M R G Qf A cs ss tgt ls st) (kf : ¬ x = y → F = some res → AW l M R G Qf A cs ss (pc + 3) ls st) : AW l M R G Qf A cs ss pc ls (.int y :: .int x :: st) := by
  intro p e s m args below meth c H locs la hF hM
  exact lv_icmp_eq hF.1.1 hF.1.2.1 hd ht (fun hp => kt hp (by rw [if_pos hp] at h; exact h) p e s m args below meth c H locs la hF hM) (fun hp => kf hp (by rw [if_neg hp] at h; exact h) p e s m args below meth c H locs la hF hM)
theorem AW_if_ne {x : Int32} {T F : Option β} {off : Int} {tgt : Nat} (hd : decode M.2.1 pc = .ok (.ifCond .ne off, 3)) (ht : (pc : Int) + off = (tgt : Int)) (h : (if x = 0 then F else T) = some res) (kt : ¬ x = 0 → T = some res → AW l M R G Qf A cs ss tgt ls st) (kf : x = 0 → F = some res → AW l M R G Qf A cs ss (pc + 3) ls st) : AW l M R G Qf A cs ss pc ls (.int x :: st) := by
  intro p e s m args below meth c H locs la hF hM
  exact lv_if_ne hF.1.1 hF.1.2.1 hd ht (fun hp => kt hp (by rw [if_neg hp] at h; exact h) p e s m args below meth c H locs la hF hM) (fun hp => kf hp (by rw [if_pos hp] at h; exact h) p e s m args below meth c H locs la hF hM)
theorem AW_icmp_ne {x y : Int32} {T F : Option β} {off : Int} {tgt : Nat} (hd : decode M.2.1 pc = .ok (.if_icmp .ne off, 3)) (ht : (pc : Int) + off = (tgt : Int)) (h : (if x = y then F else T) = some res) (kt : ¬ x = y → T = some res → AW l M R G Qf A cs ss tgt ls st) (kf : x = y → F = some res → AW l M R G Qf A cs ss (pc + 3) ls st) : AW l M R G Qf A cs ss pc ls (.int y :: .int x :: st) := by
  intro p e s m args below meth c H locs la hF hM
  exact lv_icmp_ne hF.1.1 hF.1.2.1 hd ht (fun hp => kt hp (by rw [if_neg hp] at h; exact h) p e s m args below meth c H locs la hF hM) (fun hp => kf hp (by rw [if_pos hp] at h; exact h) p e s m args below meth c H locs la hF hM)
theorem AW_if_lt {x : Int32} {T F : Option β} {off : Int} {tgt : Nat} (hd : decode M.2.1 pc = .ok (.ifCond .lt off, 3)) (ht : (pc : Int) + off = (tgt : Int)) (h : (if x < 0 then T else F) = some res) (kt : x < 0 → T = some res → AW l M R G Qf A cs ss tgt ls st) (kf : ¬ x < 0 → F = some res → AW l M R G Qf A cs ss (pc + 3) ls st) : AW l M R G Qf A cs ss pc ls (.int x :: st) := by
  intro p e s m args below meth c H locs la hF hM
  exact lv_if_lt hF.1.1 hF.1.2.1 hd ht (fun hp => kt hp (by rw [if_pos hp] at h; exact h) p e s m args below meth c H locs la hF hM) (fun hp => kf hp (by rw [if_neg hp] at h; exact h) p e s m args below meth c H locs la hF hM)
theorem AW_icmp_lt {x y : Int32} {T F : Option β} {off : Int} {tgt : Nat} (hd : decode M.2.1 pc = .ok (.if_icmp .lt off, 3)) (ht : (pc : Int) + off = (tgt : Int)) (h : (if x < y then T else F) = some res) (kt : x < y → T = some res → AW l M R G Qf A cs ss tgt ls st) (kf : ¬ x < y → F = some res → AW l M R G Qf A cs ss (pc + 3) ls st) : AW l M R G Qf A cs ss pc ls (.int y :: .int x :: st) := by
  intro p e s m args below meth c H locs la hF hM
  exact lv_icmp_lt hF.1.1 hF.1.2.1 hd ht (fun hp => kt hp (by rw [if_pos hp] at h; exact h) p e s m args below meth c H locs la hF hM) (fun hp => kf hp (by rw [if_neg hp] at h; exact h) p e s m args below meth c H locs la hF hM)
theorem AW_if_ge {x : Int32} {T F : Option β} {off : Int} {tgt : Nat} (hd : decode M.2.1 pc = .ok (.ifCond .ge off, 3)) (ht : (pc : Int) + off = (tgt : Int)) (h : (if 0 ≤ x then T else F) = some res) (kt : 0 ≤ x → T = some res → AW l M R G Qf A cs ss tgt ls st) (kf : ¬ 0 ≤ x → F = some res → AW l M R G Qf A cs ss (pc + 3) ls st) : AW l M R G Qf A cs ss pc ls (.int x :: st) := by
  intro p e s m args below meth c H locs la hF hM
  exact lv_if_ge hF.1.1 hF.1.2.1 hd ht (fun hp => kt hp (by rw [if_pos hp] at h; exact h) p e s m args below meth c H locs la hF hM) (fun hp => kf hp (by rw [if_neg hp] at h; exact h) p e s m args below meth c H locs la hF hM)
theorem AW_icmp_ge {x y : Int32} {T F : Option β} {off : Int} {tgt : Nat} (hd : decode M.2.1 pc = .ok (.if_icmp .ge off, 3)) (ht : (pc : Int) + off = (tgt : Int)) (h : (if y ≤ x then T else F) = some res) (kt : y ≤ x → T = some res → AW l M R G Qf A cs ss tgt ls st) (kf : ¬ y ≤ x → F = some res → AW l M R G Qf A cs ss (pc + 3) ls st) : AW l M R G Qf A cs ss pc ls (.int y :: .int x :: st) := by
  intro p e s m args below meth c H locs la hF hM
  exact lv_icmp_ge hF.1.1 hF.1.2.1 hd ht (fun hp => kt hp (by rw [if_pos hp] at h; exact h) p e s m args below meth c H locs la hF hM) (fun hp => kf hp (by rw [if_neg hp] at h; exact h) p e s m args below meth c H locs la hF hM)
theorem AW_if_gt {x : Int32} {T F : Option β} {off : Int} {tgt : Nat} (hd : decode M.2.1 pc = .ok (.ifCond .gt off, 3)) (ht : (pc : Int) + off = (tgt : Int)) (h : (if 0 < x then T else F) = some res) (kt : 0 < x → T = some res → AW l M R G Qf A cs ss tgt ls st) (kf : ¬ 0 < x → F = some res → AW l M R G Qf A cs ss (pc + 3) ls st) : AW l M R G Qf A cs ss pc ls (.int x :: st) := by
  intro p e s m args below meth c H locs la hF hM
  exact lv_if_gt hF.1.1 hF.1.2.1 hd ht (fun hp => kt hp (by rw [if_pos hp] at h; exact h) p e s m args below meth c H locs la hF hM) (fun hp => kf hp (by rw [if_neg hp] at h; exact h) p e s m args below meth c H locs la hF hM)
theorem AW_icmp_gt {x y : Int32} {T F : Option β} {off : Int} {tgt : Nat} (hd : decode M.2.1 pc = .ok (.if_icmp .gt off, 3)) (ht : (pc : Int) + off = (tgt : Int)) (h : (if y < x then T else F) = some res) (kt : y < x → T = some res → AW l M R G Qf A cs ss tgt ls st) (kf : ¬ y < x → F = some res → AW l M R G Qf A cs ss (pc + 3) ls st) : AW l M R G Qf A cs ss pc ls (.int y :: .int x :: st) := by
  intro p e s m args below meth c H locs la hF hM
  exact lv_icmp_gt hF.1.1 hF.1.2.1 hd ht (fun hp => kt hp (by rw [if_pos hp] at h; exact h) p e s m args below meth c H locs la hF hM) (fun hp => kf hp (by rw [if_neg hp] at h; exact h) p e s m args below meth c H locs la hF hM)
theorem AW_if_le {x : Int32} {T F : Option β} {off : Int} {tgt : Nat} (hd : decode M.2.1 pc = .ok (.ifCond .le off, 3)) (ht : (pc : Int) + off = (tgt : Int)) (h : (if x ≤ 0 then T else F) = some res) (kt : x ≤ 0 → T = some res → AW l M R G Qf A cs ss tgt ls st) (kf : ¬ x ≤ 0 → F = some res → AW l M R G Qf A cs ss (pc + 3) ls st) : AW l M R G Qf A cs ss pc ls (.int x :: st) := by
  intro p e s m args below meth c H locs la hF hM
  exact lv_if_le hF.1.1 hF.1.2.1 hd ht (fun hp => kt hp (by rw [if_pos hp] at h; exact h) p e s m args below meth c H locs la hF hM) (fun hp => kf hp (by rw [if_neg hp] at h; exact h) p e s m args below meth c H locs la hF hM)
theorem AW_icmp_le {x y : Int32} {T F : Option β} {off : Int} {tgt : Nat} (hd : decode M.2.1 pc = .ok (.if_icmp .le off, 3)) (ht : (pc : Int) + off = (tgt : Int)) (h : (if x ≤ y then T else F) = some res) (kt : x ≤ y → T = some res → AW l M R G Qf A cs ss tgt ls st) (kf : ¬ x ≤ y → F = some res → AW l M R G Qf A cs ss (pc + 3) ls st) : AW l M R G Qf A cs ss pc ls (.int y :: .int x :: st) := by
  intro p e s m args below meth c H locs la hF hM
  exact lv_icmp_le hF.1.1 hF.1.2.1 hd ht (fun hp => kt hp (by rw [if_pos hp] at h; exact h) p e s m args below meth c H locs la hF hM) (fun hp => kf hp (by rw [if_neg hp] at h; exact h) p e s m args below meth c H locs la hF hM)
theorem AW_ifnull {x : Option Nat} {T F : Option β} {off : Int} {tgt : Nat} (hd : decode M.2.1 pc = .ok (.ifnull off, 3)) (ht : (pc : Int) + off = (tgt : Int)) (h : (if x = none then T else F) = some res) (kt : x = none → T = some res → AW l M R G Qf A cs ss tgt ls st) (kf : ¬ x = none → F = some res → AW l M R G Qf A cs ss (pc + 3) ls st) : AW l M R G Qf A cs ss pc ls (va_rf x :: st) := by
  intro p e s m args below meth c H locs la hF hM
  cases x with
  | none => exact lv_ifnullN hF.1.1 hF.1.2.1 hd ht (kt rfl (by simpa using h) p e s m args below meth c H locs la hF hM)
  | some a => exact lv_ifnull hF.1.1 hF.1.2.1 hd (kf (by simp) (by simpa using h) p e s m args below meth c H locs la hF hM)
theorem AW_ifnonnull {x : Option Nat} {T F : Option β} {off : Int} {tgt : Nat} (hd : decode M.2.1 pc = .ok (.ifnonnull off, 3)) (ht : (pc : Int) + off = (tgt : Int)) (h : (if x = none then F else T) = some res) (kt : ¬ x = none → T = some res → AW l M R G Qf A cs ss tgt ls st) (kf : x = none → F = some res → AW l M R G Qf A cs ss (pc + 3) ls st) : AW l M R G Qf A cs ss pc ls (va_rf x :: st) := by
  intro p e s m args below meth c H locs la hF hM
  cases x with
  | none => exact lv_ifnonnullN hF.1.1 hF.1.2.1 hd (kf rfl (by simpa using h) p e s m args below meth c H locs la hF hM)
  | some a => exact lv_ifnonnull hF.1.1 hF.1.2.1 hd ht (kt (by simp) (by simpa using h) p e s m args below meth c H locs la hF hM)
theorem AW_div {x y : Int32} {f : Int32 → Option β} (hd : decode M.2.1 pc = .ok (.idiv, 1)) (h : (if y = 0 then none else f (x / y)) = some res) (k : ∀ z, z = x / y → f z = some res → AW l M R G Qf A cs ss (pc + 1) ls (.int z :: st)) : AW l M R G Qf A cs ss pc ls (.int y :: .int x :: st) := by
  intro p e s m args below meth c H locs la hF hM
  by_cases hy : y = 0
  · rw [if_pos hy] at h; cases h
  · rw [if_neg hy] at h
    exact lv_idiv hF.1.1 hF.1.2.1 hd hy (k _ rfl h p e s m args below meth c H locs la hF hM)
theorem AW_rem {x y : Int32} {f : Int32 → Option β} (hd : decode M.2.1 pc = .ok (.irem, 1)) (h : (if y = 0 then none else f (x - x / y * y)) = some res) (k : ∀ z, z = x - x / y * y → f z = some res → AW l M R G Qf A cs ss (pc + 1) ls (.int z :: st)) : AW l M R G Qf A cs ss pc ls (.int y :: .int x :: st) := by
  intro p e s m args below meth c H locs la hF hM
  by_cases hy : y = 0
  · rw [if_pos hy] at h; cases h
  · rw [if_neg hy] at h
    exact lv_irem hF.1.1 hF.1.2.1 hd hy (k _ rfl h p e s m args below meth c H locs la hF hM)
-- fields
theorem AW_getI {ci k0 N i : Nat} {C : String} {T : u_T} {r : Option Nat} {f : Int32 → Option β} (hd : decode M.2.1 pc = .ok (.getfield i, 3)) (hc : vwCl[ci]? = some (C, T, N)) (hin : ∀ w ∈ u_ws C T N, w ∈ M.2.2.2.2) (hk : k0 < N) (hlk : Cond.fieldLink M.1.cls i (T k0).1 (T k0).2.1 (T k0).2.2.1 ∈ M.2.2.2.2) (h : (oI A r ci k0).bind f = some res) (k : ∀ x, oI A r ci k0 = some x → f x = some res → AW l M R G Qf A cs ss (pc + 3) ls (.int x :: st)) : AW l M R G Qf A cs ss pc ls (va_rf r :: st) := by
  intro p e s m args below meth c H locs la hF hM
  obtain ⟨x, h1, h2⟩ := bd h
  obtain ⟨q, fs, rfl, h4, h5⟩ := oI_s h1
  have h6 := k x h1 h2 p e s m args below meth c H locs la hF hM
  have hq : g_em G (va_rf (some q)) = .ref (G.1 + q) := by
    show Value.ref (g_ad G q) = _
    rw [g_ad_lt G (Nat.lt_of_lt_of_le (g_lt h4) hM.2.2.1)]
  rw [List.map_cons, hq]
  exact va_get hF.1.1 hF.1.2.1 hF.1.2.2.2.2.2.1 hin hF.1.2.2.2.2.1 hF.2.1 hM.1 q (g_ws_get G h4) hc k0 hk (hF.1.2.2.2.2.2.1 _ hlk) (fun _ h => h) (v := .int x) (by simp [h5, g_em]) hd h6
theorem AW_getR {ci k0 N i : Nat} {C : String} {T : u_T} {r : Option Nat} {f : Option Nat → Option β} (hd : decode M.2.1 pc = .ok (.getfield i, 3)) (hc : vwCl[ci]? = some (C, T, N)) (hin : ∀ w ∈ u_ws C T N, w ∈ M.2.2.2.2) (hk : k0 < N) (hlk : Cond.fieldLink M.1.cls i (T k0).1 (T k0).2.1 (T k0).2.2.1 ∈ M.2.2.2.2) (h : (oR A r ci k0).bind f = some res) (k : ∀ x, oR A r ci k0 = some x → f x = some res → AW l M R G Qf A cs ss (pc + 3) ls (va_rf x :: st)) : AW l M R G Qf A cs ss pc ls (va_rf r :: st) := by
  intro p e s m args below meth c H locs la hF hM
  obtain ⟨x, h1, h2⟩ := bd h
  obtain ⟨q, fs, rfl, h4, h5⟩ := oR_s h1
  have h6 := k x h1 h2 p e s m args below meth c H locs la hF hM
  have hq : g_em G (va_rf (some q)) = .ref (G.1 + q) := by
    show Value.ref (g_ad G q) = _
    rw [g_ad_lt G (Nat.lt_of_lt_of_le (g_lt h4) hM.2.2.1)]
  rw [List.map_cons, hq]
  exact va_get hF.1.1 hF.1.2.1 hF.1.2.2.2.2.2.1 hin hF.1.2.2.2.2.1 hF.2.1 hM.1 q (g_ws_get G h4) hc k0 hk (hF.1.2.2.2.2.2.1 _ hlk) (fun _ h => h) (v := g_em G (va_rf x)) (by simp [h5]) hd h6
theorem g_V.put {nL : Nat} {s : State} {H H1 : Heap} {locs locs1 : List Loc} {la : Array Slot} {q : Nat} {c0 c1 : va_E} (hM : g_V nL G A s H locs ls la) (h4 : A[q]? = some c0) (hP : va_P G.2.1 vwCl ((g_ws G A).set q (G.1 + q, g_ce G c1)) H1) (hS : va_S (g_A G) s.heap H1 locs1) (hz : H1.size = H.size) : g_V nL G (A.set q c1) s H1 locs1 ls la :=
  ⟨by rw [← g_ws_set]; exact hP, by rw [hz, List.length_set]; exact hM.2.1, by rw [List.length_set]; exact hM.2.2.1, hS, hM.2.2.2.2⟩
end AWR
end
section
section AWS
variable {l : Launch} {M : gM} {R : Room} {G : gS} {Qf : Array Value → State → List Frame → State → Prop} {A : hP} {cs ss pc : Nat} {ls : List (Option Value)} {st : List Value} {β : Type} {res : β}
theorem g_ref {nL : Nat} {s : State} {H : Heap} {locs : List Loc} {la : Array Slot} {q : Nat} {c0 : va_E} (hM : g_V nL G A s H locs ls la) (h : A[q]? = some c0) : g_em G (va_rf (some q)) = .ref (G.1 + q) := by
  show Value.ref (g_ad G q) = _
  rw [g_ad_lt G (Nat.lt_of_lt_of_le (g_lt h) hM.2.2.1)]
theorem AW_getT {k0 i : Nat} {r : Option Nat} {f : Int32 → Option β} {nm : String} (hk : k0 = 0 ∧ nm = "number" ∨ k0 = 1 ∧ nm = "weight") (hT : ∀ w ∈ gT, w ∈ M.2.2.2.2) (hd : decode M.2.1 pc = .ok (.getfield i, 3)) (hlk : Cond.fieldLink M.1.cls i "YesterdayScale$Thing" nm "I" ∈ M.2.2.2.2) (h : (oT A r k0).bind f = some res) (k : ∀ x, oT A r k0 = some x → f x = some res → AW l M R G Qf A cs ss (pc + 3) ls (.int x :: st)) : AW l M R G Qf A cs ss pc ls (va_rf r :: st) := by
  intro p e s m args below meth c H locs la hF hM
  obtain ⟨x, h1, h2⟩ := bd h
  obtain ⟨q, ci, fs, rfl, h4, h7, h5⟩ := oT_s h1
  have h6 := k x h1 h2 p e s m args below meth c H locs la hF hM
  rw [List.map_cons, g_ref hM h4]
  have hv : (fs.map (g_em G))[k0]? = some (.int x) := by simp [h5, g_em]
  have hc : ci = 1 ∨ ci = 4 ∨ ci = 5 ∨ ci = 7 ∨ ci = 8 := by
    unfold isTh at h7
    simp only [Bool.or_eq_true, beq_iff_eq] at h7
    omega
  rcases hk with ⟨rfl, rfl⟩ | ⟨rfl, rfl⟩
  · rcases hc with rfl | rfl | rfl | rfl | rfl
    · exact va_get (C := RX1) (T := TX1) (N := 2) hF.1.1 hF.1.2.1 hF.1.2.2.2.2.2.1 (fun w h => hT w (tU_X1 w h)) hF.1.2.2.2.2.1 hF.2.1 hM.1 q (g_ws_get G h4) rfl 0 (by decide) (hF.1.2.2.2.2.2.1 _ hlk) (fun _ h => h) (v := .int x) hv hd h6
    · exact va_get (C := RX4) (T := TX4) (N := 2) hF.1.1 hF.1.2.1 hF.1.2.2.2.2.2.1 (fun w h => hT w (tU_X4 w h)) hF.1.2.2.2.2.1 hF.2.1 hM.1 q (g_ws_get G h4) rfl 0 (by decide) (hF.1.2.2.2.2.2.1 _ hlk) (fun _ h => h) (v := .int x) hv hd h6
    · exact va_get (C := RX5) (T := TX5) (N := 2) hF.1.1 hF.1.2.1 hF.1.2.2.2.2.2.1 (fun w h => hT w (tU_X5 w h)) hF.1.2.2.2.2.1 hF.2.1 hM.1 q (g_ws_get G h4) rfl 0 (by decide) (hF.1.2.2.2.2.2.1 _ hlk) (fun _ h => h) (v := .int x) hv hd h6
    · exact va_get (C := RX8) (T := TX8) (N := 2) hF.1.1 hF.1.2.1 hF.1.2.2.2.2.2.1 (fun w h => hT w (tU_X8 w h)) hF.1.2.2.2.2.1 hF.2.1 hM.1 q (g_ws_get G h4) rfl 0 (by decide) (hF.1.2.2.2.2.2.1 _ hlk) (fun _ h => h) (v := .int x) hv hd h6
    · exact va_get (C := RX9) (T := TX9) (N := 2) hF.1.1 hF.1.2.1 hF.1.2.2.2.2.2.1 (fun w h => hT w (tU_X9 w h)) hF.1.2.2.2.2.1 hF.2.1 hM.1 q (g_ws_get G h4) rfl 0 (by decide) (hF.1.2.2.2.2.2.1 _ hlk) (fun _ h => h) (v := .int x) hv hd h6
  · rcases hc with rfl | rfl | rfl | rfl | rfl
    · exact va_get (C := RX1) (T := TX1) (N := 2) hF.1.1 hF.1.2.1 hF.1.2.2.2.2.2.1 (fun w h => hT w (tU_X1 w h)) hF.1.2.2.2.2.1 hF.2.1 hM.1 q (g_ws_get G h4) rfl 1 (by decide) (hF.1.2.2.2.2.2.1 _ hlk) (fun _ h => h) (v := .int x) hv hd h6
    · exact va_get (C := RX4) (T := TX4) (N := 2) hF.1.1 hF.1.2.1 hF.1.2.2.2.2.2.1 (fun w h => hT w (tU_X4 w h)) hF.1.2.2.2.2.1 hF.2.1 hM.1 q (g_ws_get G h4) rfl 1 (by decide) (hF.1.2.2.2.2.2.1 _ hlk) (fun _ h => h) (v := .int x) hv hd h6
    · exact va_get (C := RX5) (T := TX5) (N := 2) hF.1.1 hF.1.2.1 hF.1.2.2.2.2.2.1 (fun w h => hT w (tU_X5 w h)) hF.1.2.2.2.2.1 hF.2.1 hM.1 q (g_ws_get G h4) rfl 1 (by decide) (hF.1.2.2.2.2.2.1 _ hlk) (fun _ h => h) (v := .int x) hv hd h6
    · exact va_get (C := RX8) (T := TX8) (N := 2) hF.1.1 hF.1.2.1 hF.1.2.2.2.2.2.1 (fun w h => hT w (tU_X8 w h)) hF.1.2.2.2.2.1 hF.2.1 hM.1 q (g_ws_get G h4) rfl 1 (by decide) (hF.1.2.2.2.2.2.1 _ hlk) (fun _ h => h) (v := .int x) hv hd h6
    · exact va_get (C := RX9) (T := TX9) (N := 2) hF.1.1 hF.1.2.1 hF.1.2.2.2.2.2.1 (fun w h => hT w (tU_X9 w h)) hF.1.2.2.2.2.1 hF.2.1 hM.1 q (g_ws_get G h4) rfl 1 (by decide) (hF.1.2.2.2.2.2.1 _ hlk) (fun _ h => h) (v := .int x) hv hd h6
/-- a store into a field: not final, or final in a constructor of its own class -/
theorem AW_put {ci k0 N i : Nat} {C : String} {T : u_T} {ty0 : Nat → FieldType} {r : Option Nat} {v : Value} {f : hP → Option β} (hd : decode M.2.1 pc = .ok (.putfield i, 3)) (hc : vwCl[ci]? = some (C, T, N)) (hin : ∀ w ∈ u_ws C T N, w ∈ M.2.2.2.2) (hty : ∀ k, k < N → parseFieldDescriptor (T k).2.2.1 = some (ty0 k)) (hnm : ∀ a, a < N → ∀ b, b < N → a ≠ b → (T a).2.1 ≠ (T b).2.1) (hk : k0 < N) (hlk : Cond.fieldLink M.1.cls i (T k0).1 (T k0).2.1 (T k0).2.2.1 ∈ M.2.2.2.2) (hfin : (T k0).2.2.2 = false ∨ (T k0).2.2.2 = true ∧ M.1.name = "<init>" ∧ (T k0).1 = M.1.cls) (hn : narrow (ty0 k0) (g_em G v) = g_em G v) (hfit : fits (ty0 k0) (g_em G v) = true) (h : (oP A r ci k0 v).bind f = some res) (k : ∀ A', oP A r ci k0 v = some A' → f A' = some res → AW l M R G Qf A' cs ss (pc + 3) ls st) : AW l M R G Qf A cs ss pc ls (v :: va_rf r :: st) := by
  intro p e s m args below meth c H locs la hF hM
  obtain ⟨A', h1, h2⟩ := bd h
  have h6 := k A' h1 h2
  obtain ⟨q, fs, rfl, h4, h5, rfl⟩ := oP_s h1
  have hts := hF.1.2.2.2.2.2.1
  have hap := va_apart (own := M.1.cls) hts hin ty0 hty hnm hF.2.1 hc
  have hw := g_ws_get G h4
  rw [List.map_cons, List.map_cons, g_ref hM h4]
  obtain ⟨r, h1', cell, q1, q2, q3, q4⟩ := hM.1 q _ hw
  have hr : r = (C, T, N) := Option.some.inj (h1'.symm.trans hc)
  subst hr
  obtain ⟨hS, hfc, kC, hkC, hkind⟩ := hF.2.1.1 ci _ hc
  obtain ⟨cf, kf, fi, fd, hi, hsl⟩ := hS k0 hk
  have hlay := hts _ (hin _ (u_in_lay hk))
  have hst := (u_facts hfc hkC (u_lays hts hin hk) hi).1
  have hgo : ∀ H' : Heap, H'[G.1 + q]? = some (cell.setSlot fd.slot (g_em G v)) → H'.size = H.size → (∀ x, x ≠ G.1 + q → H'[x]? = H[x]?) → W p l e R s m args below meth c H' (locs ++ [⟨G.1 + q, fd.slot⟩]) cs ss (Qf args s below) (F0 m (pc + 3) la (st.map (g_em G))) := by
    intro H' e1 e2 e3
    refine h6 p e s m args below meth c H' _ la hF (g_V.put hM h4 ?_ (hM.2.2.2.1.put e2 e3 (Nat.le_add_right _ _)) e2)
    refine va_P.set hM.1 (g_D G A) hw ?_ e3
    rw [hsl] at e1
    refine ⟨_, hc, t_OB.to (V := updV (vp_V (fs.map (g_em G))) k0 (g_em G v)) ⟨_, e1, q2, q3, t_set q4 hap hk _⟩ (fun j _ => ?_)⟩
    show updV (vp_V (fs.map (g_em G))) k0 (g_em G v) j = vp_V ((fs.set k0 v).map (g_em G)) j
    rw [List.map_set]
    exact vp_updV_set (by simpa using h5) _ j
  rcases hfin with hfin | ⟨hfin, hini, hdecl⟩
  · unfold u_lay at hlay
    rw [if_neg (by rw [hfin]; decide)] at hlay
    have h8 := u_store hfc hkC hkind hlay hi (hty k0 hk) hn hfit
    exact W.putK hF.1.1 hF.1.2.1 (f := fd) ⟨hF.1.2.2.2.2.1, hts _ hlk, ⟨_, _, _, hi⟩, hst⟩ (by rw [q2]; exact h8) q1 q3 (by rw [hsl]; exact k2_hasslot (q4 k0 hk)) rfl rfl hd hgo
  · unfold u_lay at hlay
    rw [if_pos hfin] at hlay
    have hcf : m.cls = cf := by
      obtain ⟨_, _, c', _, _, _, -, -, hf', -, -, -, hown2, -⟩ := Cond.laysFinal_spec hlay
      have e1 : c' = cf := by have := hi.symm.trans hf'; simp at this; exact this.1.symm
      rw [hdecl] at hown2
      rw [← e1]; exact Option.some.inj (hF.1.2.2.2.2.1.symm.trans hown2)
    have h8 := u_fits hfc hkC hkind (Or.inr hlay) hi (hty k0 hk) hn hfit
    exact W.putFinK hF.1.1 hF.1.2.1 hF.1.2.2.2.2.1 (hts _ hlk) hi hst hcf (by rw [hF.1.2.2.2.2.2.2.2]; exact hini) (by rw [q2]; exact h8) q1 q3 (by rw [hsl]; exact k2_hasslot (q4 k0 hk)) rfl rfl hd hgo
theorem nz_z {x : Int32} (h : x = 0 ∨ x = 1) : narrow .boolean (.int x) = .int x ∧ fits .boolean (.int x) = true := by rcases h with rfl | rfl <;> decide
theorem AW_putZ {ci k0 N i : Nat} {C : String} {T : u_T} {ty0 : Nat → FieldType} {r : Option Nat} {x : Int32} {f : hP → Option β} (hd : decode M.2.1 pc = .ok (.putfield i, 3)) (hc : vwCl[ci]? = some (C, T, N)) (hin : ∀ w ∈ u_ws C T N, w ∈ M.2.2.2.2) (hty : ∀ k, k < N → parseFieldDescriptor (T k).2.2.1 = some (ty0 k)) (hnm : ∀ a, a < N → ∀ b, b < N → a ≠ b → (T a).2.1 ≠ (T b).2.1) (hk : k0 < N) (hlk : Cond.fieldLink M.1.cls i (T k0).1 (T k0).2.1 (T k0).2.2.1 ∈ M.2.2.2.2) (hfin : (T k0).2.2.2 = false) (hz : ty0 k0 = .boolean) (h : (oPz A r ci k0 x).bind f = some res) (k : ∀ A', oP A r ci k0 (.int x) = some A' → f A' = some res → AW l M R G Qf A' cs ss (pc + 3) ls st) : AW l M R G Qf A cs ss pc ls (.int x :: va_rf r :: st) := by
  unfold oPz at h
  split at h
  · rename_i h9
    exact AW_put (v := .int x) hd hc hin hty hnm hk hlk (Or.inl hfin) (by rw [hz]; exact (nz_z h9).1) (by rw [hz]; exact (nz_z h9).2) h k
  · cases h
-- arrays
theorem AW_iald {r : Option Nat} {i : Int32} {f : Int32 → Option β} (hd : decode M.2.1 pc = .ok (.iaload, 1)) (h : (oA A r 0 i).bind f = some res) (k : ∀ x, oA A r 0 i = some x → f x = some res → AW l M R G Qf A cs ss (pc + 1) ls (.int x :: st)) : AW l M R G Qf A cs ss pc ls (.int i :: va_rf r :: st) := by
  intro p e s m args below meth c H locs la hF hM
  obtain ⟨x, h1, h2⟩ := bd h
  have h6 := k x h1 h2 p e s m args below meth c H locs la hF hM
  obtain ⟨q, n, g, rfl, h4, h5, rfl⟩ := oA_s h1
  rw [List.map_cons, List.map_cons, g_ref hM h4]
  exact va_iald hF.1.1 hF.1.2.1 hF.2.1 hM.1 q 0 (g_ws_get G h4) rfl h5 hd h6
theorem AW_bald {r : Option Nat} {i : Int32} {f : Int32 → Option β} (hd : decode M.2.1 pc = .ok (.baload, 1)) (h : (oA A r 1 i).bind f = some res) (k : ∀ x, oA A r 1 i = some x → f x = some res → AW l M R G Qf A cs ss (pc + 1) ls (.int x :: st)) : AW l M R G Qf A cs ss pc ls (.int i :: va_rf r :: st) := by
  intro p e s m args below meth c H locs la hF hM
  obtain ⟨x, h1, h2⟩ := bd h
  have h6 := k x h1 h2 p e s m args below meth c H locs la hF hM
  obtain ⟨q, n, g, rfl, h4, h5, rfl⟩ := oA_s h1
  rw [List.map_cons, List.map_cons, g_ref hM h4]
  exact va_bald hF.1.1 hF.1.2.1 hF.2.1 hM.1 q 1 (g_ws_get G h4) rfl h5 hd h6
theorem AW_zald {r : Option Nat} {i : Int32} {f : Int32 → Option β} (hd : decode M.2.1 pc = .ok (.baload, 1)) (h : (oA A r 2 i).bind f = some res) (k : ∀ x, oA A r 2 i = some x → f x = some res → AW l M R G Qf A cs ss (pc + 1) ls (.int x :: st)) : AW l M R G Qf A cs ss pc ls (.int i :: va_rf r :: st) := by
  intro p e s m args below meth c H locs la hF hM
  obtain ⟨x, h1, h2⟩ := bd h
  have h6 := k x h1 h2 p e s m args below meth c H locs la hF hM
  obtain ⟨q, n, g, rfl, h4, h5, rfl⟩ := oA_s h1
  rw [List.map_cons, List.map_cons, g_ref hM h4]
  exact va_zald hF.1.1 hF.1.2.1 hF.2.1 hM.1 q 2 (g_ws_get G h4) rfl h5 hd h6
theorem g_arr {i : Int32} {n : Nat} {f : Nat → Int32} {cA : ClassId} {x y : Int32} {v : Value} (hv : v = .int y) (hx : y = x) : (vp_cell cA (n, .inl f)).setSlot i.toNatClampNeg v = vp_cell cA (n, .inl (upd f i.toNatClampNeg x)) := by
  subst hv; subst hx
  rw [vp_cell_i, vp_cell_i, arrV_store]
  congr 2
  funext q
  by_cases hq : q = i.toNatClampNeg
  · subst hq; simp [updV, upd]
  · simp [updV, upd, hq]
theorem AW_iast {r : Option Nat} {i x : Int32} {f : hP → Option β} (hd : decode M.2.1 pc = .ok (.iastore, 1)) (h : (oS A r 0 i x).bind f = some res) (k : ∀ A', oS A r 0 i x = some A' → f A' = some res → AW l M R G Qf A' cs ss (pc + 1) ls st) : AW l M R G Qf A cs ss pc ls (.int x :: .int i :: va_rf r :: st) := by
  intro p e s m args below meth c H locs la hF hM
  obtain ⟨A', h1, h2⟩ := bd h
  have h6 := k A' h1 h2
  obtain ⟨q, n, g, rfl, h4, h5, rfl⟩ := oS_s h1
  have hw := g_ws_get G h4
  rw [List.map_cons, List.map_cons, List.map_cons, g_ref hM h4]
  refine W.iast hF.1.1 hF.1.2.1 (hM.1 q _ hw) ((hF.2.1.2 0 _ rfl).1 n (fun j => .int (g j))) (fun q => by cases q) (by show ¬ (i < 0 ∨ (arrV _ _ _).slots.size ≤ _); rw [arrV_size]; exact h5) rfl rfl hd fun H1 e1 z oq => ?_
  exact h6 p e s m args below meth c H1 _ la hF (g_V.put hM h4 (va_P.set hM.1 (g_D G A) hw (e1.trans (congrArg some (g_arr rfl rfl))) oq) (hM.2.2.2.1.put z oq (Nat.le_add_right _ _)) z)
theorem AW_bast {r : Option Nat} {i x : Int32} {f : hP → Option β} (hd : decode M.2.1 pc = .ok (.bastore, 1)) (h : (oS A r 1 i x.toInt8.toInt32).bind f = some res) (k : ∀ A', oS A r 1 i x.toInt8.toInt32 = some A' → f A' = some res → AW l M R G Qf A' cs ss (pc + 1) ls st) : AW l M R G Qf A cs ss pc ls (.int x :: .int i :: va_rf r :: st) := by
  intro p e s m args below meth c H locs la hF hM
  obtain ⟨A', h1, h2⟩ := bd h
  have h6 := k A' h1 h2
  obtain ⟨q, n, g, rfl, h4, h5, rfl⟩ := oS_s h1
  have hw := g_ws_get G h4
  rw [List.map_cons, List.map_cons, List.map_cons, g_ref hM h4]
  refine W.bast hF.1.1 hF.1.2.1 (hM.1 q _ hw) ((hF.2.1.2 1 _ rfl).1 n (fun j => .int (g j))) (fun q => by cases q) (by show ¬ (i < 0 ∨ (arrV _ _ _).slots.size ≤ _); rw [arrV_size]; exact h5) rfl rfl hd fun H1 e1 z oq => ?_
  exact h6 p e s m args below meth c H1 _ la hF (g_V.put hM h4 (va_P.set hM.1 (g_D G A) hw (e1.trans (congrArg some (g_arr rfl rfl))) oq) (hM.2.2.2.1.put z oq (Nat.le_add_right _ _)) z)
theorem AW_zast {r : Option Nat} {i x : Int32} {f : hP → Option β} (hd : decode M.2.1 pc = .ok (.bastore, 1)) (h : (if x = 0 ∨ x = 1 then (oS A r 2 i x).bind f else none) = some res) (k : ∀ A', oS A r 2 i x = some A' → f A' = some res → AW l M R G Qf A' cs ss (pc + 1) ls st) : AW l M R G Qf A cs ss pc ls (.int x :: .int i :: va_rf r :: st) := by
  intro p e s m args below meth c H locs la hF hM
  split at h
  case isFalse => cases h
  rename_i h9
  obtain ⟨A', h1, h2⟩ := bd h
  have h6 := k A' h1 h2
  obtain ⟨q, n, g, rfl, h4, h5, rfl⟩ := oS_s h1
  have hw := g_ws_get G h4
  rw [List.map_cons, List.map_cons, List.map_cons, g_ref hM h4]
  refine W.zast hF.1.1 hF.1.2.1 (hM.1 q _ hw) ((hF.2.1.2 2 _ rfl).1 n (fun j => .int (g j))) (fun q => by cases q) (by show ¬ (i < 0 ∨ (arrV _ _ _).slots.size ≤ _); rw [arrV_size]; exact h5) rfl rfl hd fun H1 e1 z oq => ?_
  exact h6 p e s m args below meth c H1 _ la hF (g_V.put hM h4 (va_P.set hM.1 (g_D G A) hw (e1.trans (congrArg some (g_arr (nz_z h9).1 rfl))) oq) (hM.2.2.2.1.put z oq (Nat.le_add_right _ _)) z)
theorem AW_alen {r : Option Nat} {f : Int32 → Option β} {t : Nat} (ht : t < 3) (hd : decode M.2.1 pc = .ok (.arraylength, 1)) (h : (oN A r t).bind f = some res) (k : ∀ x, oN A r t = some x → f x = some res → AW l M R G Qf A cs ss (pc + 1) ls (.int x :: st)) : AW l M R G Qf A cs ss pc ls (va_rf r :: st) := by
  intro p e s m args below meth c H locs la hF hM
  obtain ⟨x, h1, h2⟩ := bd h
  have h6 := k x h1 h2 p e s m args below meth c H locs la hF hM
  obtain ⟨q, n, g, rfl, h4, rfl⟩ := oN_s h1
  rw [List.map_cons, g_ref hM h4]
  rcases (show t = 0 ∨ t = 1 ∨ t = 2 by omega) with rfl | rfl | rfl
  · exact va_alen hF.1.1 hF.1.2.1 hF.2.1 hM.1 q 0 (g_ws_get G h4) (ty := .int) rfl rfl hd h6
  · exact va_alen hF.1.1 hF.1.2.1 hF.2.1 hM.1 q 1 (g_ws_get G h4) (ty := .byte) rfl rfl hd h6
  · exact va_alen hF.1.1 hF.1.2.1 hF.2.1 hM.1 q 2 (g_ws_get G h4) (ty := .boolean) rfl rfl hd h6
theorem AW_aald {r : Option Nat} {i : Int32} {t : Nat} {C : String} {f : Option Nat → Option β} (ht : ∀ G : gS, (g_ty G)[t]? = some (G.2.2.2 t, .object C)) (hd : decode M.2.1 pc = .ok (.aaload, 1)) (h : (oQ A r t i).bind f = some res) (k : ∀ x, oQ A r t i = some x → f x = some res → AW l M R G Qf A cs ss (pc + 1) ls (va_rf x :: st)) : AW l M R G Qf A cs ss pc ls (.int i :: va_rf r :: st) := by
  intro p e s m args below meth c H locs la hF hM
  obtain ⟨x, h1, h2⟩ := bd h
  have h6 := k x h1 h2 p e s m args below meth c H locs la hF hM
  obtain ⟨q, n, g, rfl, h4, h5, rfl⟩ := oQ_s h1
  rw [List.map_cons, List.map_cons, g_ref hM h4]
  rw [List.map_cons, g_em_rf] at h6
  exact va_aldq hF.1.1 hF.1.2.1 hF.2.1 hM.1 q t (g_ws_get G h4) (ht G) h5 hd h6
theorem g_arq {i : Int32} {n : Nat} {f : Nat → Option Nat} {cA : ClassId} {v : Option Nat} : (vp_cell cA (n, .inr (.inr (.inr (.inr fun j => (f j).map (g_ad G)))))).setSlot i.toNatClampNeg (va_rf (v.map (g_ad G))) = vp_cell cA (n, .inr (.inr (.inr (.inr fun j => (va_up f i.toNatClampNeg v j).map (g_ad G))))) := by
  rw [vp_cell_q, vp_cell_q, arrV_store]
  congr 2
  funext q
  by_cases hq : q = i.toNatClampNeg
  · subst hq; simp [updV, va_up]
  · simp [updV, va_up, hq]
/-- a reference into a row of references: null, or an object of a class that may lie there -/
theorem AW_aast {r v : Option Nat} {i : Int32} {t : Nat} {C : String} {f : hP → Option β} (ht : ∀ G : gS, (g_ty G)[t]? = some (G.2.2.2 t, .object C)) (hd : decode M.2.1 pc = .ok (.aastore, 1)) (hok : ∀ q, v = some q → ∃ ci fs cl, A[q]? = some (.inr (ci, fs)) ∧ vwCl[ci]? = some cl ∧ (cl.1 = C ∨ (cl.1, C) ∈ g_yes)) (h : (oU A r t i v).bind f = some res) (k : ∀ A', oU A r t i v = some A' → f A' = some res → AW l M R G Qf A' cs ss (pc + 1) ls st) : AW l M R G Qf A cs ss pc ls (va_rf v :: .int i :: va_rf r :: st) := by
  intro p e s m args below meth c H locs la hF hM
  obtain ⟨A', h1, h2⟩ := bd h
  have h6 := k A' h1 h2
  obtain ⟨q, n, g, rfl, h4, h5, rfl⟩ := oU_s h1
  have hw := g_ws_get G h4
  rw [List.map_cons, List.map_cons, List.map_cons, g_ref hM h4]
  have hlt : i.toNatClampNeg < n := Nat.not_le.mp fun q => h5 (Or.inr q)
  have h0 : ¬ i < 0 := fun q => h5 (Or.inl q)
  have hfin : ∀ (H1 : Heap), H1[G.1 + q]? = some ((vp_cell (G.2.2.2 t) (n, .inr (.inr (.inr (.inr fun j => (g j).map (g_ad G)))))).setSlot i.toNatClampNeg (va_rf (v.map (g_ad G)))) → H1.size = H.size → (∀ x, x ≠ G.1 + q → H1[x]? = H[x]?) → W p l e R s m args below meth c H1 (locs ++ [⟨G.1 + q, i.toNatClampNeg⟩]) cs ss (Qf args s below) (F0 m (pc + 1) la (st.map (g_em G))) := by
    intro H1 e1 z oq
    exact h6 p e s m args below meth c H1 _ la hF (g_V.put hM h4 (va_P.set hM.1 (g_D G A) hw (e1.trans (congrArg some g_arq)) oq) (hM.2.2.2.1.put z oq (Nat.le_add_right _ _)) z)
  cases v with
  | none =>
    exact va_WaastN (C := C) hF.1.1 hF.1.2.1 (hM.1 q _ hw) ((hF.2.1.2 t _ (ht G)).1 n (fun j => va_rf ((g j).map (g_ad G)))) (fun h => by cases h) (by show ¬ (i < 0 ∨ (arrV _ _ _).slots.size ≤ _); rw [arrV_size]; exact h5) rfl rfl hd hfin
  | some v =>
    obtain ⟨ci, fs, cl, hv1, hv2, hv3⟩ := hok v rfl
    have hvw := g_ws_get G hv1
    obtain ⟨r', hr', cellV, g1, g2, g3, -⟩ := hM.1 v _ hvw
    have hcls := (hF.2.1.1 ci cl hv2).2
    obtain ⟨kA, comp, k1, k2, k3, -⟩ := (hF.2.1.2 t _ (ht G)).2
    obtain ⟨kE, hkE, -⟩ := Vm.findClass_spec k3
    obtain ⟨kC, hkC, -⟩ := hcls.2
    have hasg : s.vm.assignable cellV.cls comp = true := by
      rw [g2]
      rcases hv3 with rfl | hv3
      · have hcomp : comp = G.2.1.1 ci := Option.some.inj (k3.symm.trans hcls.1)
        rw [hcomp]; exact va_assign hcls
      · obtain ⟨c0, t1, f1, f2, f3⟩ := Cond.castable_spec (va_Nw.use (A := args) rfl (hF.2.2.1.2.1 _ hv3))
        cases hcls.1.symm.trans f1
        cases k3.symm.trans f2
        exact f3
    have hr : g_em G (va_rf (some v)) = .ref (G.1 + v) := g_ref hM hv1
    rw [hr]
    have hr2 : va_rf ((some v).map (g_ad G)) = .ref (G.1 + v) := by rw [← g_em_rf]; exact hr
    rw [hr2] at hfin
    exact W.aast hF.1.1 hF.1.2.1 (hM.1 q _ hw) (fun q h => by cases h) (fun h => by cases h) k1 k2 rfl hkE ⟨h0, by show _ < (arrV _ _ _).slots.size; rw [arrV_size]; exact hlt⟩ g1 (fun q h => by rw [g3] at h; cases h) (by rw [g2]; exact hkC) hasg rfl rfl hd hfin
/-- instanceof, of a thing -/
theorem AW_inst {r : Option Nat} {i tc : Nat} {nm : String} {f : Nat → Option β} (hd : decode M.2.1 pc = .ok (.instanceof i, 3)) (hlk : Cond.classLink M.1.cls i nm ∈ M.2.2.2.2)
    (htab : ∀ ci, isTh ci = true → ∃ cl, vwCl[ci]? = some cl ∧ (isOf ci tc = true ∧ (cl.1 = nm ∨ (cl.1, nm) ∈ g_yes) ∨ isOf ci tc = false ∧ (cl.1, nm) ∈ g_no))
    (h : (oC A r).bind f = some res) (hth : ∀ c, oC A r = some c → isTh c = true) (k : ∀ c, oC A r = some c → f c = some res → AW l M R G Qf A cs ss (pc + 3) ls (.int (if isOf c tc then 1 else 0) :: st)) : AW l M R G Qf A cs ss pc ls (va_rf r :: st) := by
  intro p e s m args below meth c H locs la hF hM
  obtain ⟨ci, h1, h2⟩ := bd h
  have h6 := k ci h1 h2 p e s m args below meth c H locs la hF hM
  have h3 := hth ci h1
  obtain ⟨q, fs, rfl, h4⟩ := oC_s h1
  obtain ⟨cl, hcl, hh⟩ := htab ci h3
  rw [List.map_cons, g_ref hM h4]
  have hrec := va_recv hF.2.1 hM.1 hcl (g_ws_get G h4)
  have hl := hF.1.2.2.2.2.2.1 _ hlk
  rcases hh with ⟨e1, h7⟩ | ⟨e1, h7⟩
  · rw [e1] at h6
    rcases h7 with rfl | h7
    · exact va_instS hF.1.1 hF.1.2.1 hF.1.2.2.2.2.1 hl (hF.2.1.1 ci cl hcl).2 hrec hd h6
    · exact va_instY hF.1.1 hF.1.2.1 hF.1.2.2.2.2.1 hl (hF.2.2.1.2.1 _ h7) hrec hd h6
  · rw [e1] at h6
    exact va_instNo hF.1.1 hF.1.2.1 hF.1.2.2.2.2.1 hl (hF.2.2.1.2.2.1 _ h7) hrec hd h6
end AWS
end
section
def vi (x : Int32) : Option Value := some (.int x)
def oCk (A : hP) (r : Option Nat) (ci : Nat) : Option Unit := if oC A r = some ci then some () else none
theorem oCk_s {A : hP} {r : Option Nat} {ci : Nat} {u : Unit} (h : oCk A r ci = some u) : ∃ p fs, r = some p ∧ A[p]? = some (.inr (ci, fs)) := by
  unfold oCk at h
  split at h
  · rename_i h1; exact oC_s h1
  · cases h
theorem g_stk (G : gS) (st : List Value) (h : st.length ≤ 4) : ((st.map (g_em G)).map fun v => v.category).sum ≤ 8 := by
  have key : ∀ (t : List Value), ((t.map (g_em G)).map fun v => v.category).sum ≤ 2 * t.length := by
    intro t
    induction t with
    | nil => simp
    | cons v t ih =>
      simp only [List.map_cons, List.sum_cons, List.length_cons]
      have : (g_em G v).category ≤ 2 := by rcases lv_cat (g_em G v) with e | e <;> omega
      omega
  have := key st
  omega
theorem g_K0 {M : gM} {G : gS} {p : Program} {s : State} {m : MethodId} {args : Array Value} {meth : Method} {c : Code} (hF : g_F M G p s m args meth c) : CallFix p m c M.2.1 M.2.2.1 s args M.2.2.2.2 M.1.cls := ⟨hF.1.1, hF.1.2.1, hF.1.2.2.2.1, hF.1.2.2.2.2.1, hF.1.2.2.2.2.2.1⟩
section AWC
variable {l : Launch} {M : gM} {R : Room} {G : gS} {Qf : Array Value → State → List Frame → State → Prop} {A : hP} {cs ss pc : Nat} {ls : List (Option Value)} {st : List Value} {β : Type} {res : β}
/-- a state as it stands: a case of a test made of an 'if' -/
theorem AW_case {P : Prop} [Decidable P] {T F : Option β} (h : (if P then T else F) = some res) (kt : P → T = some res → AW l M R G Qf A cs ss pc ls st) (kf : ¬ P → F = some res → AW l M R G Qf A cs ss pc ls st) : AW l M R G Qf A cs ss pc ls st := by
  by_cases hp : P
  · exact kt hp (by rw [if_pos hp] at h; exact h)
  · exact kf hp (by rw [if_neg hp] at h; exact h)
theorem AW_tabIn {dflt lo hi off : Int} {offs : Array Int} {len : Nat} {x c : Int32} {tgt : Nat} (hd : decode M.2.1 pc = .ok (.tableswitch dflt lo hi offs, len)) (hx : x = c) (h1 : ¬ c.toInt < lo) (h2 : ¬ hi < c.toInt) (ho : offs[(c.toInt - lo).toNat]? = some off) (ht : (pc : Int) + off = (tgt : Int)) (k : AW l M R G Qf A cs ss tgt ls st) : AW l M R G Qf A cs ss pc ls (.int x :: st) := by
  intro p e s m args below meth c H locs la hF hM
  subst hx
  exact lv_tableIn hF.1.1 hF.1.2.1 hd h1 h2 ho ht (k p e s m args below meth c H locs la hF hM)
theorem AW_tabOut {dflt lo hi : Int} {offs : Array Int} {len : Nat} {x : Int32} {tgt : Nat} (hd : decode M.2.1 pc = .ok (.tableswitch dflt lo hi offs, len)) (h : x.toInt < lo ∨ hi < x.toInt) (ht : (pc : Int) + dflt = (tgt : Int)) (k : AW l M R G Qf A cs ss tgt ls st) : AW l M R G Qf A cs ss pc ls (.int x :: st) := by
  intro p e s m args below meth c H locs la hF hM
  exact lv_tableOut hF.1.1 hF.1.2.1 hd h ht (k p e s m args below meth c H locs la hF hM)
theorem AW_look {dflt off : Int} {ps : Array (Int × Int)} {len : Nat} {x : Int32} {tgt : Nat} (hd : decode M.2.1 pc = .ok (.lookupswitch dflt ps, len)) (hp : (ps.toList.zip (ps.toList.drop 1)).all (fun (a, next) => a.1 < next.1) = true) (ho : Op.lookupswitch.offset ps.toList dflt x.toInt = off) (ht : (pc : Int) + off = (tgt : Int)) (k : AW l M R G Qf A cs ss tgt ls st) : AW l M R G Qf A cs ss pc ls (.int x :: st) := by
  intro p e s m args below meth c H locs la hF hM
  exact lv_lookup hF.1.1 hF.1.2.1 hd hp ho ht (k p e s m args below meth c H locs la hF hM)
theorem i32_ne {x c : Int32} (h : ¬ x = c) : x.toInt ≠ c.toInt := fun e => h (Int32.toInt_inj.mp e)
/-- behind a call -/
theorem g_run {Q : Option Value → hP → Prop} {mc ms : Nat} {a : Array Value} {p : Program} {e : Env} {s : State} {m : MethodId} {args : Array Value} {below : List Frame} {meth : Method} {c : Code} {H : Heap} {locs : List Loc} {la : Array Slot} {st0 : List Value} (hF : g_F M G p s m args meth c) (hM : g_V M.2.2.1 G A s H locs ls la)
    (hr : va_Run p l e R s m args below meth c H locs cs ss mc ms (F0 m pc la st0) (st.map (g_em G)) (g_Qc G Q a) (g_A G))
    (k : ∀ v A', Q v A' → AW l M R G Qf A' (cs + mc) (ss + ms) (pc + 3) ls (v.toList ++ st)) : W p l e R s m args below meth c H locs cs ss (Qf args s below) (F0 m pc la st0) := by
  intro T hT X
  obtain ⟨v, st₀, t, T', L, h0, X', hL, e1, e2, ⟨v0, A', hv, hQ, hP, hz, hlen, hf⟩, go⟩ := hr T hT X
  have hv : v = v0.map (g_em G) := by cases hv; rfl
  subst hv
  have hS : va_S (g_A G) s.heap T'.heap (locs ++ L) := by
    have h4 := hM.2.2.2.1
    have hz2 := hf.1
    have hk2 := hf.2
    rw [h0] at hz2 hk2
    refine ⟨by rw [e1]; exact Nat.le_trans h4.1 hz2, fun q g1 g2 => ?_, fun q hq => ?_⟩
    · rw [e1, hk2 q (Nat.lt_of_lt_of_le g1 h4.1) g2]; exact h4.2.1 q g1 g2
    · rcases List.mem_append.mp hq with h | h
      · exact h4.2.2 q h
      · exact hL q h
  obtain ⟨t2, a1, b1⟩ := k v0 A' hQ p e s m args below meth c T'.heap (locs ++ L) la hF ⟨by rw [e1]; exact hP, by rw [e1]; exact hz, hlen, hS, hM.2.2.2.2⟩ T' rfl X'
  have hs : (v0.toList ++ st).map (g_em G) = (v0.map (g_em G)).toList ++ st.map (g_em G) := by cases v0 <;> simp
  rw [hs] at a1
  exact ⟨t2, go t2 a1, b1⟩

theorem AW_callSi {y : MethodName} {cc : ByteArray} {n d mc ms np i : Nat} {ret : Option FieldType} {As : List Value} {F : Option (Int32 × hP)} {f : Int32 × hP → Option β} (hd : decode M.2.1 pc = .ok (.invokestatic i, 3)) (hT : ∀ w ∈ gT, w ∈ M.2.2.2.2) (hlk : Cond.methodLink M.1.cls i y ∈ gT) (hstc : Cond.static y ∈ gT) (hini : Cond.initialized y.cls ∈ gT) (hcode : Cond.code y cc n ret ∈ gT) (hdesc : y.cls ≠ "java/lang/invoke/MethodHandle" ∧ y.cls ≠ "java/lang/invoke/VarHandle" ∧ (parseMethodDescriptor y.desc).map (fun d => d.parameters.length) = some np) (hR : d + 1 ≤ R.frames ∧ 8 + (n + 11) + 36 * d ≤ R.locals) (hcs : cs + mc ≤ R.cells ∧ ss + ms ≤ R.slots) (hst : st.length ≤ 4) (hnp : As.length = np) (h : F.bind f = some res) (hC : ∀ q, F = some q → Ct l (gMk y cc n ret) d mc ms A (As) (gi q)) (k : ∀ q, F = some q → f q = some res → AW l M R G Qf q.2 (cs + mc) (ss + ms) (pc + 3) ls (.int q.1 :: st)) : AW l M R G Qf A cs ss pc ls (As.reverse ++ st) := by
  intro p e s m args below meth c H locs la hF hM
  obtain ⟨q, h2, h3⟩ := bd h
  have hts := hF.1.2.2.2.2.2.1
  rw [List.map_append, List.map_reverse]
  exact g_run (Q := gi q) hF hM (va_runS (g_K0 hF) (hC q h2 G) ⟨callB_of np hts (gT_good hT hcode) rfl rfl rfl (hts _ (hT _ hini)) (hts _ (hT _ hlk)) hdesc hR, hts _ (hT _ hstc)⟩ ⟨g_blind G A _, fun U hU hW => ⟨rfl, g_pre hF hM hU hW⟩⟩ rfl (by simpa using hnp) hM.2.2.2.2.1 rfl (lv_room (g_stk G st hst)) hd hcs) (fun v A' hQ => by obtain ⟨rfl, rfl⟩ := hQ; exact k q h2 h3)
theorem AW_callVi {y : MethodName} {cc : ByteArray} {n d mc ms np i : Nat} {ret : Option FieldType} {As : List Value} {F : Option (Int32 × hP)} {f : Int32 × hP → Option β} {r : Option Nat} {ci : Nat} {cl : vw_C} (hd : decode M.2.1 pc = .ok (.invokevirtual i, 3)) (hT : ∀ w ∈ gT, w ∈ M.2.2.2.2) (hcl : vwCl[ci]? = some cl) (hlk : Cond.methodLink M.1.cls i y ∈ gT) (hinm : Cond.instanceMethod y ∈ gT) (hsel : Cond.selects cl.1 y y ∈ gT) (hini : Cond.initialized y.cls ∈ gT) (hcode : Cond.code y cc n ret ∈ gT) (hdesc : y.cls ≠ "java/lang/invoke/MethodHandle" ∧ y.cls ≠ "java/lang/invoke/VarHandle" ∧ (parseMethodDescriptor y.desc).map (fun d => d.parameters.length) = some np) (hR : d + 1 ≤ R.frames ∧ 8 + (n + 11) + 36 * d ≤ R.locals) (hcs : cs + mc ≤ R.cells ∧ ss + ms ≤ R.slots) (hst : st.length ≤ 4) (hnp : As.length = np) (h : ((oCk A r ci).bind fun _ => F.bind f) = some res) (hC : ∀ q, F = some q → Ct l (gMk y cc n ret) d mc ms A (va_rf r :: As) (gi q)) (k : ∀ q, F = some q → f q = some res → AW l M R G Qf q.2 (cs + mc) (ss + ms) (pc + 3) ls (.int q.1 :: st)) : AW l M R G Qf A cs ss pc ls (As.reverse ++ va_rf r :: st) := by
  intro p e s m args below meth c H locs la hF hM
  obtain ⟨_, h1, h0⟩ := bd h
  obtain ⟨q, h2, h3⟩ := bd h0
  obtain ⟨b, fs, rfl, h5⟩ := oCk_s h1
  have hts := hF.1.2.2.2.2.2.1
  rw [List.map_append, List.map_reverse, List.map_cons, g_ref hM h5]
  exact g_run (Q := gi q) hF hM (va_runV (C := cl.1) (g_K0 hF) (hC q h2 G) ⟨callB_of np hts (gT_good hT hcode) rfl rfl rfl (hts _ (hT _ hini)) (hts _ (hT _ hlk)) hdesc hR, hts _ (hT _ hinm), hts _ (hT _ hsel)⟩ ⟨g_blind G A _, va_recv hF.2.1 hM.1 hcl (g_ws_get G h5), fun U hU hW => ⟨by rw [List.map_cons, g_ref hM h5], g_pre hF hM hU hW⟩⟩ rfl (by simpa using hnp) hM.2.2.2.2.1 rfl (lv_room (g_stk G st hst)) hd hcs) (fun v A' hQ => by obtain ⟨rfl, rfl⟩ := hQ; exact k q h2 h3)
theorem AW_callUi {y : MethodName} {cc : ByteArray} {n d mc ms np i : Nat} {ret : Option FieldType} {As : List Value} {F : Option (Int32 × hP)} {f : Int32 × hP → Option β} {r : Option Nat} {ci : Nat} {cl : vw_C} {x : MethodName} (hd : decode M.2.1 pc = .ok (.invokevirtual i, 3)) (hT : ∀ w ∈ gT, w ∈ M.2.2.2.2) (hcl : vwCl[ci]? = some cl) (hlk : Cond.methodLink M.1.cls i x ∈ gT) (hsam : Cond.sameMethod x.cls x.cls x.name x.desc ∈ gT) (hdec : ∀ U : State, (∃ a : Array Value, ∀ w ∈ gT, w.before a U = true) → g_Old G U → va_Decl U x) (hinm : Cond.instanceMethod y ∈ gT) (hsel : Cond.selects cl.1 x y ∈ gT) (hini : Cond.initialized y.cls ∈ gT) (hcode : Cond.code y cc n ret ∈ gT) (hdesc : x.cls ≠ "java/lang/invoke/MethodHandle" ∧ x.cls ≠ "java/lang/invoke/VarHandle" ∧ (parseMethodDescriptor x.desc).map (fun d => d.parameters.length) = some np) (hR : d + 1 ≤ R.frames ∧ 8 + (n + 11) + 36 * d ≤ R.locals) (hcs : cs + mc ≤ R.cells ∧ ss + ms ≤ R.slots) (hst : st.length ≤ 4) (hnp : As.length = np) (h : ((oCk A r ci).bind fun _ => F.bind f) = some res) (hC : ∀ q, F = some q → Ct l (gMk y cc n ret) d mc ms A (va_rf r :: As) (gi q)) (k : ∀ q, F = some q → f q = some res → AW l M R G Qf q.2 (cs + mc) (ss + ms) (pc + 3) ls (.int q.1 :: st)) : AW l M R G Qf A cs ss pc ls (As.reverse ++ va_rf r :: st) := by
  intro p e s m args below meth c H locs la hF hM
  obtain ⟨_, h1, h0⟩ := bd h
  obtain ⟨q, h2, h3⟩ := bd h0
  obtain ⟨b, fs, rfl, h5⟩ := oCk_s h1
  have hts := hF.1.2.2.2.2.2.1
  have htg : ∀ w ∈ gT, w.before args s = true := fun w h => hts w (hT w h)
  rw [List.map_append, List.map_reverse, List.map_cons, g_ref hM h5]
  exact g_run (Q := gi q) hF hM (va_runU (C := cl.1) (owner := x.cls) (x := x) (g_K0 hF) (hC q h2 G) ⟨⟨rfl, rfl, hR.1, hR.2, pay_in hts (gT_good hT hcode), List.mem_cons_self⟩, htg _ hcode, htg _ hini, ⟨hdesc.1, hdesc.2.1⟩, (fun sig hs => by have h2 := hdesc.2.2; rw [hs] at h2; exact (Option.some.inj h2).symm), htg _ hlk, htg _ hsam, hdec s ⟨args, htg⟩ hF.2.2.1, htg _ hsel, htg _ hinm⟩ ⟨g_blind G A _, va_recv hF.2.1 hM.1 hcl (g_ws_get G h5), fun U hU hW => ⟨by rw [List.map_cons, g_ref hM h5], g_pre hF hM hU hW⟩⟩ rfl (by simpa using hnp) hM.2.2.2.2.1 rfl (lv_room (g_stk G st hst)) hd hcs) (fun v A' hQ => by obtain ⟨rfl, rfl⟩ := hQ; exact k q h2 h3)
theorem AW_callPi {y : MethodName} {cc : ByteArray} {n d mc ms np i : Nat} {ret : Option FieldType} {As : List Value} {F : Option (Int32 × hP)} {f : Int32 × hP → Option β} {r : Option Nat} {ci : Nat} {cl : vw_C} (hd : decode M.2.1 pc = .ok (.invokespecial i, 3)) (hT : ∀ w ∈ gT, w ∈ M.2.2.2.2) (hcl : vwCl[ci]? = some cl) (hlk : Cond.methodLink M.1.cls i y ∈ gT) (hsam : Cond.sameMethod y.cls y.cls y.name y.desc ∈ gT) (hsup : Cond.superclass M.1.cls y.cls ∈ gT) (hinm : Cond.instanceMethod y ∈ gT) (hini : Cond.initialized y.cls ∈ gT) (hcode : Cond.code y cc n ret ∈ gT) (hdesc : y.name ≠ "<init>" ∧ (parseMethodDescriptor y.desc).map (fun d => d.parameters.length) = some np) (hR : d + 1 ≤ R.frames ∧ 8 + (n + 11) + 36 * d ≤ R.locals) (hcs : cs + mc ≤ R.cells ∧ ss + ms ≤ R.slots) (hst : st.length ≤ 4) (hnp : As.length = np) (h : ((oCk A r ci).bind fun _ => F.bind f) = some res) (hC : ∀ q, F = some q → Ct l (gMk y cc n ret) d mc ms A (va_rf r :: As) (gi q)) (k : ∀ q, F = some q → f q = some res → AW l M R G Qf q.2 (cs + mc) (ss + ms) (pc + 3) ls (.int q.1 :: st)) : AW l M R G Qf A cs ss pc ls (As.reverse ++ va_rf r :: st) := by
  intro p e s m args below meth c H locs la hF hM
  obtain ⟨_, h1, h0⟩ := bd h
  obtain ⟨q, h2, h3⟩ := bd h0
  obtain ⟨b, fs, rfl, h5⟩ := oCk_s h1
  have hts := hF.1.2.2.2.2.2.1
  have htg : ∀ w ∈ gT, w.before args s = true := fun w h => hts w (hT w h)
  rw [List.map_append, List.map_reverse, List.map_cons, g_ref hM h5]
  exact g_run (Q := gi q) hF hM (va_runSU (C := cl.1) (hF.2.1.1 ci cl hcl).2 (g_K0 hF) (hC q h2 G) ⟨⟨rfl, rfl, hR.1, hR.2, pay_in hts (gT_good hT hcode), List.mem_cons_self⟩, htg _ hlk, htg _ hsam, htg _ hsup, htg _ hinm, htg _ hini, htg _ hcode, hdesc.1, (fun sig hs => by have h2 := hdesc.2; rw [hs] at h2; exact (Option.some.inj h2).symm)⟩ ⟨g_blind G A _, va_recv hF.2.1 hM.1 hcl (g_ws_get G h5), fun U hU hW => ⟨by rw [List.map_cons, g_ref hM h5], g_pre hF hM hU hW⟩⟩ rfl (by simpa using hnp) hM.2.2.2.2.1 rfl (lv_room (g_stk G st hst)) hd hcs) (fun v A' hQ => by obtain ⟨rfl, rfl⟩ := hQ; exact k q h2 h3)
theorem AW_callSl {y : MethodName} {cc : ByteArray} {n d mc ms np i : Nat} {ret : Option FieldType} {As : List Value} {F : Option (Int64 × hP)} {f : Int64 × hP → Option β} (hd : decode M.2.1 pc = .ok (.invokestatic i, 3)) (hT : ∀ w ∈ gT, w ∈ M.2.2.2.2) (hlk : Cond.methodLink M.1.cls i y ∈ gT) (hstc : Cond.static y ∈ gT) (hini : Cond.initialized y.cls ∈ gT) (hcode : Cond.code y cc n ret ∈ gT) (hdesc : y.cls ≠ "java/lang/invoke/MethodHandle" ∧ y.cls ≠ "java/lang/invoke/VarHandle" ∧ (parseMethodDescriptor y.desc).map (fun d => d.parameters.length) = some np) (hR : d + 1 ≤ R.frames ∧ 8 + (n + 11) + 36 * d ≤ R.locals) (hcs : cs + mc ≤ R.cells ∧ ss + ms ≤ R.slots) (hst : st.length ≤ 4) (hnp : As.length = np) (h : F.bind f = some res) (hC : ∀ q, F = some q → Ct l (gMk y cc n ret) d mc ms A (As) (gl q)) (k : ∀ q, F = some q → f q = some res → AW l M R G Qf q.2 (cs + mc) (ss + ms) (pc + 3) ls (.long q.1 :: st)) : AW l M R G Qf A cs ss pc ls (As.reverse ++ st) := by
  intro p e s m args below meth c H locs la hF hM
  obtain ⟨q, h2, h3⟩ := bd h
  have hts := hF.1.2.2.2.2.2.1
  rw [List.map_append, List.map_reverse]
  exact g_run (Q := gl q) hF hM (va_runS (g_K0 hF) (hC q h2 G) ⟨callB_of np hts (gT_good hT hcode) rfl rfl rfl (hts _ (hT _ hini)) (hts _ (hT _ hlk)) hdesc hR, hts _ (hT _ hstc)⟩ ⟨g_blind G A _, fun U hU hW => ⟨rfl, g_pre hF hM hU hW⟩⟩ rfl (by simpa using hnp) hM.2.2.2.2.1 rfl (lv_room (g_stk G st hst)) hd hcs) (fun v A' hQ => by obtain ⟨rfl, rfl⟩ := hQ; exact k q h2 h3)
theorem AW_callVl {y : MethodName} {cc : ByteArray} {n d mc ms np i : Nat} {ret : Option FieldType} {As : List Value} {F : Option (Int64 × hP)} {f : Int64 × hP → Option β} {r : Option Nat} {ci : Nat} {cl : vw_C} (hd : decode M.2.1 pc = .ok (.invokevirtual i, 3)) (hT : ∀ w ∈ gT, w ∈ M.2.2.2.2) (hcl : vwCl[ci]? = some cl) (hlk : Cond.methodLink M.1.cls i y ∈ gT) (hinm : Cond.instanceMethod y ∈ gT) (hsel : Cond.selects cl.1 y y ∈ gT) (hini : Cond.initialized y.cls ∈ gT) (hcode : Cond.code y cc n ret ∈ gT) (hdesc : y.cls ≠ "java/lang/invoke/MethodHandle" ∧ y.cls ≠ "java/lang/invoke/VarHandle" ∧ (parseMethodDescriptor y.desc).map (fun d => d.parameters.length) = some np) (hR : d + 1 ≤ R.frames ∧ 8 + (n + 11) + 36 * d ≤ R.locals) (hcs : cs + mc ≤ R.cells ∧ ss + ms ≤ R.slots) (hst : st.length ≤ 4) (hnp : As.length = np) (h : ((oCk A r ci).bind fun _ => F.bind f) = some res) (hC : ∀ q, F = some q → Ct l (gMk y cc n ret) d mc ms A (va_rf r :: As) (gl q)) (k : ∀ q, F = some q → f q = some res → AW l M R G Qf q.2 (cs + mc) (ss + ms) (pc + 3) ls (.long q.1 :: st)) : AW l M R G Qf A cs ss pc ls (As.reverse ++ va_rf r :: st) := by
  intro p e s m args below meth c H locs la hF hM
  obtain ⟨_, h1, h0⟩ := bd h
  obtain ⟨q, h2, h3⟩ := bd h0
  obtain ⟨b, fs, rfl, h5⟩ := oCk_s h1
  have hts := hF.1.2.2.2.2.2.1
  rw [List.map_append, List.map_reverse, List.map_cons, g_ref hM h5]
  exact g_run (Q := gl q) hF hM (va_runV (C := cl.1) (g_K0 hF) (hC q h2 G) ⟨callB_of np hts (gT_good hT hcode) rfl rfl rfl (hts _ (hT _ hini)) (hts _ (hT _ hlk)) hdesc hR, hts _ (hT _ hinm), hts _ (hT _ hsel)⟩ ⟨g_blind G A _, va_recv hF.2.1 hM.1 hcl (g_ws_get G h5), fun U hU hW => ⟨by rw [List.map_cons, g_ref hM h5], g_pre hF hM hU hW⟩⟩ rfl (by simpa using hnp) hM.2.2.2.2.1 rfl (lv_room (g_stk G st hst)) hd hcs) (fun v A' hQ => by obtain ⟨rfl, rfl⟩ := hQ; exact k q h2 h3)
theorem AW_callUl {y : MethodName} {cc : ByteArray} {n d mc ms np i : Nat} {ret : Option FieldType} {As : List Value} {F : Option (Int64 × hP)} {f : Int64 × hP → Option β} {r : Option Nat} {ci : Nat} {cl : vw_C} {x : MethodName} (hd : decode M.2.1 pc = .ok (.invokevirtual i, 3)) (hT : ∀ w ∈ gT, w ∈ M.2.2.2.2) (hcl : vwCl[ci]? = some cl) (hlk : Cond.methodLink M.1.cls i x ∈ gT) (hsam : Cond.sameMethod x.cls x.cls x.name x.desc ∈ gT) (hdec : ∀ U : State, (∃ a : Array Value, ∀ w ∈ gT, w.before a U = true) → g_Old G U → va_Decl U x) (hinm : Cond.instanceMethod y ∈ gT) (hsel : Cond.selects cl.1 x y ∈ gT) (hini : Cond.initialized y.cls ∈ gT) (hcode : Cond.code y cc n ret ∈ gT) (hdesc : x.cls ≠ "java/lang/invoke/MethodHandle" ∧ x.cls ≠ "java/lang/invoke/VarHandle" ∧ (parseMethodDescriptor x.desc).map (fun d => d.parameters.length) = some np) (hR : d + 1 ≤ R.frames ∧ 8 + (n + 11) + 36 * d ≤ R.locals) (hcs : cs + mc ≤ R.cells ∧ ss + ms ≤ R.slots) (hst : st.length ≤ 4) (hnp : As.length = np) (h : ((oCk A r ci).bind fun _ => F.bind f) = some res) (hC : ∀ q, F = some q → Ct l (gMk y cc n ret) d mc ms A (va_rf r :: As) (gl q)) (k : ∀ q, F = some q → f q = some res → AW l M R G Qf q.2 (cs + mc) (ss + ms) (pc + 3) ls (.long q.1 :: st)) : AW l M R G Qf A cs ss pc ls (As.reverse ++ va_rf r :: st) := by
  intro p e s m args below meth c H locs la hF hM
  obtain ⟨_, h1, h0⟩ := bd h
  obtain ⟨q, h2, h3⟩ := bd h0
  obtain ⟨b, fs, rfl, h5⟩ := oCk_s h1
  have hts := hF.1.2.2.2.2.2.1
  have htg : ∀ w ∈ gT, w.before args s = true := fun w h => hts w (hT w h)
  rw [List.map_append, List.map_reverse, List.map_cons, g_ref hM h5]
  exact g_run (Q := gl q) hF hM (va_runU (C := cl.1) (owner := x.cls) (x := x) (g_K0 hF) (hC q h2 G) ⟨⟨rfl, rfl, hR.1, hR.2, pay_in hts (gT_good hT hcode), List.mem_cons_self⟩, htg _ hcode, htg _ hini, ⟨hdesc.1, hdesc.2.1⟩, (fun sig hs => by have h2 := hdesc.2.2; rw [hs] at h2; exact (Option.some.inj h2).symm), htg _ hlk, htg _ hsam, hdec s ⟨args, htg⟩ hF.2.2.1, htg _ hsel, htg _ hinm⟩ ⟨g_blind G A _, va_recv hF.2.1 hM.1 hcl (g_ws_get G h5), fun U hU hW => ⟨by rw [List.map_cons, g_ref hM h5], g_pre hF hM hU hW⟩⟩ rfl (by simpa using hnp) hM.2.2.2.2.1 rfl (lv_room (g_stk G st hst)) hd hcs) (fun v A' hQ => by obtain ⟨rfl, rfl⟩ := hQ; exact k q h2 h3)
theorem AW_callPl {y : MethodName} {cc : ByteArray} {n d mc ms np i : Nat} {ret : Option FieldType} {As : List Value} {F : Option (Int64 × hP)} {f : Int64 × hP → Option β} {r : Option Nat} {ci : Nat} {cl : vw_C} (hd : decode M.2.1 pc = .ok (.invokespecial i, 3)) (hT : ∀ w ∈ gT, w ∈ M.2.2.2.2) (hcl : vwCl[ci]? = some cl) (hlk : Cond.methodLink M.1.cls i y ∈ gT) (hsam : Cond.sameMethod y.cls y.cls y.name y.desc ∈ gT) (hsup : Cond.superclass M.1.cls y.cls ∈ gT) (hinm : Cond.instanceMethod y ∈ gT) (hini : Cond.initialized y.cls ∈ gT) (hcode : Cond.code y cc n ret ∈ gT) (hdesc : y.name ≠ "<init>" ∧ (parseMethodDescriptor y.desc).map (fun d => d.parameters.length) = some np) (hR : d + 1 ≤ R.frames ∧ 8 + (n + 11) + 36 * d ≤ R.locals) (hcs : cs + mc ≤ R.cells ∧ ss + ms ≤ R.slots) (hst : st.length ≤ 4) (hnp : As.length = np) (h : ((oCk A r ci).bind fun _ => F.bind f) = some res) (hC : ∀ q, F = some q → Ct l (gMk y cc n ret) d mc ms A (va_rf r :: As) (gl q)) (k : ∀ q, F = some q → f q = some res → AW l M R G Qf q.2 (cs + mc) (ss + ms) (pc + 3) ls (.long q.1 :: st)) : AW l M R G Qf A cs ss pc ls (As.reverse ++ va_rf r :: st) := by
  intro p e s m args below meth c H locs la hF hM
  obtain ⟨_, h1, h0⟩ := bd h
  obtain ⟨q, h2, h3⟩ := bd h0
  obtain ⟨b, fs, rfl, h5⟩ := oCk_s h1
  have hts := hF.1.2.2.2.2.2.1
  have htg : ∀ w ∈ gT, w.before args s = true := fun w h => hts w (hT w h)
  rw [List.map_append, List.map_reverse, List.map_cons, g_ref hM h5]
  exact g_run (Q := gl q) hF hM (va_runSU (C := cl.1) (hF.2.1.1 ci cl hcl).2 (g_K0 hF) (hC q h2 G) ⟨⟨rfl, rfl, hR.1, hR.2, pay_in hts (gT_good hT hcode), List.mem_cons_self⟩, htg _ hlk, htg _ hsam, htg _ hsup, htg _ hinm, htg _ hini, htg _ hcode, hdesc.1, (fun sig hs => by have h2 := hdesc.2; rw [hs] at h2; exact (Option.some.inj h2).symm)⟩ ⟨g_blind G A _, va_recv hF.2.1 hM.1 hcl (g_ws_get G h5), fun U hU hW => ⟨by rw [List.map_cons, g_ref hM h5], g_pre hF hM hU hW⟩⟩ rfl (by simpa using hnp) hM.2.2.2.2.1 rfl (lv_room (g_stk G st hst)) hd hcs) (fun v A' hQ => by obtain ⟨rfl, rfl⟩ := hQ; exact k q h2 h3)
theorem AW_callSr {y : MethodName} {cc : ByteArray} {n d mc ms np i : Nat} {ret : Option FieldType} {As : List Value} {F : Option (Option Nat × hP)} {f : Option Nat × hP → Option β} (hd : decode M.2.1 pc = .ok (.invokestatic i, 3)) (hT : ∀ w ∈ gT, w ∈ M.2.2.2.2) (hlk : Cond.methodLink M.1.cls i y ∈ gT) (hstc : Cond.static y ∈ gT) (hini : Cond.initialized y.cls ∈ gT) (hcode : Cond.code y cc n ret ∈ gT) (hdesc : y.cls ≠ "java/lang/invoke/MethodHandle" ∧ y.cls ≠ "java/lang/invoke/VarHandle" ∧ (parseMethodDescriptor y.desc).map (fun d => d.parameters.length) = some np) (hR : d + 1 ≤ R.frames ∧ 8 + (n + 11) + 36 * d ≤ R.locals) (hcs : cs + mc ≤ R.cells ∧ ss + ms ≤ R.slots) (hst : st.length ≤ 4) (hnp : As.length = np) (h : F.bind f = some res) (hC : ∀ q, F = some q → Ct l (gMk y cc n ret) d mc ms A (As) (gr q)) (k : ∀ q, F = some q → f q = some res → AW l M R G Qf q.2 (cs + mc) (ss + ms) (pc + 3) ls (va_rf q.1 :: st)) : AW l M R G Qf A cs ss pc ls (As.reverse ++ st) := by
  intro p e s m args below meth c H locs la hF hM
  obtain ⟨q, h2, h3⟩ := bd h
  have hts := hF.1.2.2.2.2.2.1
  rw [List.map_append, List.map_reverse]
  exact g_run (Q := gr q) hF hM (va_runS (g_K0 hF) (hC q h2 G) ⟨callB_of np hts (gT_good hT hcode) rfl rfl rfl (hts _ (hT _ hini)) (hts _ (hT _ hlk)) hdesc hR, hts _ (hT _ hstc)⟩ ⟨g_blind G A _, fun U hU hW => ⟨rfl, g_pre hF hM hU hW⟩⟩ rfl (by simpa using hnp) hM.2.2.2.2.1 rfl (lv_room (g_stk G st hst)) hd hcs) (fun v A' hQ => by obtain ⟨rfl, rfl⟩ := hQ; exact k q h2 h3)
theorem AW_callVr {y : MethodName} {cc : ByteArray} {n d mc ms np i : Nat} {ret : Option FieldType} {As : List Value} {F : Option (Option Nat × hP)} {f : Option Nat × hP → Option β} {r : Option Nat} {ci : Nat} {cl : vw_C} (hd : decode M.2.1 pc = .ok (.invokevirtual i, 3)) (hT : ∀ w ∈ gT, w ∈ M.2.2.2.2) (hcl : vwCl[ci]? = some cl) (hlk : Cond.methodLink M.1.cls i y ∈ gT) (hinm : Cond.instanceMethod y ∈ gT) (hsel : Cond.selects cl.1 y y ∈ gT) (hini : Cond.initialized y.cls ∈ gT) (hcode : Cond.code y cc n ret ∈ gT) (hdesc : y.cls ≠ "java/lang/invoke/MethodHandle" ∧ y.cls ≠ "java/lang/invoke/VarHandle" ∧ (parseMethodDescriptor y.desc).map (fun d => d.parameters.length) = some np) (hR : d + 1 ≤ R.frames ∧ 8 + (n + 11) + 36 * d ≤ R.locals) (hcs : cs + mc ≤ R.cells ∧ ss + ms ≤ R.slots) (hst : st.length ≤ 4) (hnp : As.length = np) (h : ((oCk A r ci).bind fun _ => F.bind f) = some res) (hC : ∀ q, F = some q → Ct l (gMk y cc n ret) d mc ms A (va_rf r :: As) (gr q)) (k : ∀ q, F = some q → f q = some res → AW l M R G Qf q.2 (cs + mc) (ss + ms) (pc + 3) ls (va_rf q.1 :: st)) : AW l M R G Qf A cs ss pc ls (As.reverse ++ va_rf r :: st) := by
  intro p e s m args below meth c H locs la hF hM
  obtain ⟨_, h1, h0⟩ := bd h
  obtain ⟨q, h2, h3⟩ := bd h0
  obtain ⟨b, fs, rfl, h5⟩ := oCk_s h1
  have hts := hF.1.2.2.2.2.2.1
  rw [List.map_append, List.map_reverse, List.map_cons, g_ref hM h5]
  exact g_run (Q := gr q) hF hM (va_runV (C := cl.1) (g_K0 hF) (hC q h2 G) ⟨callB_of np hts (gT_good hT hcode) rfl rfl rfl (hts _ (hT _ hini)) (hts _ (hT _ hlk)) hdesc hR, hts _ (hT _ hinm), hts _ (hT _ hsel)⟩ ⟨g_blind G A _, va_recv hF.2.1 hM.1 hcl (g_ws_get G h5), fun U hU hW => ⟨by rw [List.map_cons, g_ref hM h5], g_pre hF hM hU hW⟩⟩ rfl (by simpa using hnp) hM.2.2.2.2.1 rfl (lv_room (g_stk G st hst)) hd hcs) (fun v A' hQ => by obtain ⟨rfl, rfl⟩ := hQ; exact k q h2 h3)
theorem AW_callUr {y : MethodName} {cc : ByteArray} {n d mc ms np i : Nat} {ret : Option FieldType} {As : List Value} {F : Option (Option Nat × hP)} {f : Option Nat × hP → Option β} {r : Option Nat} {ci : Nat} {cl : vw_C} {x : MethodName} (hd : decode M.2.1 pc = .ok (.invokevirtual i, 3)) (hT : ∀ w ∈ gT, w ∈ M.2.2.2.2) (hcl : vwCl[ci]? = some cl) (hlk : Cond.methodLink M.1.cls i x ∈ gT) (hsam : Cond.sameMethod x.cls x.cls x.name x.desc ∈ gT) (hdec : ∀ U : State, (∃ a : Array Value, ∀ w ∈ gT, w.before a U = true) → g_Old G U → va_Decl U x) (hinm : Cond.instanceMethod y ∈ gT) (hsel : Cond.selects cl.1 x y ∈ gT) (hini : Cond.initialized y.cls ∈ gT) (hcode : Cond.code y cc n ret ∈ gT) (hdesc : x.cls ≠ "java/lang/invoke/MethodHandle" ∧ x.cls ≠ "java/lang/invoke/VarHandle" ∧ (parseMethodDescriptor x.desc).map (fun d => d.parameters.length) = some np) (hR : d + 1 ≤ R.frames ∧ 8 + (n + 11) + 36 * d ≤ R.locals) (hcs : cs + mc ≤ R.cells ∧ ss + ms ≤ R.slots) (hst : st.length ≤ 4) (hnp : As.length = np) (h : ((oCk A r ci).bind fun _ => F.bind f) = some res) (hC : ∀ q, F = some q → Ct l (gMk y cc n ret) d mc ms A (va_rf r :: As) (gr q)) (k : ∀ q, F = some q → f q = some res → AW l M R G Qf q.2 (cs + mc) (ss + ms) (pc + 3) ls (va_rf q.1 :: st)) : AW l M R G Qf A cs ss pc ls (As.reverse ++ va_rf r :: st) := by
  intro p e s m args below meth c H locs la hF hM
  obtain ⟨_, h1, h0⟩ := bd h
  obtain ⟨q, h2, h3⟩ := bd h0
  obtain ⟨b, fs, rfl, h5⟩ := oCk_s h1
  have hts := hF.1.2.2.2.2.2.1
  have htg : ∀ w ∈ gT, w.before args s = true := fun w h => hts w (hT w h)
  rw [List.map_append, List.map_reverse, List.map_cons, g_ref hM h5]
  exact g_run (Q := gr q) hF hM (va_runU (C := cl.1) (owner := x.cls) (x := x) (g_K0 hF) (hC q h2 G) ⟨⟨rfl, rfl, hR.1, hR.2, pay_in hts (gT_good hT hcode), List.mem_cons_self⟩, htg _ hcode, htg _ hini, ⟨hdesc.1, hdesc.2.1⟩, (fun sig hs => by have h2 := hdesc.2.2; rw [hs] at h2; exact (Option.some.inj h2).symm), htg _ hlk, htg _ hsam, hdec s ⟨args, htg⟩ hF.2.2.1, htg _ hsel, htg _ hinm⟩ ⟨g_blind G A _, va_recv hF.2.1 hM.1 hcl (g_ws_get G h5), fun U hU hW => ⟨by rw [List.map_cons, g_ref hM h5], g_pre hF hM hU hW⟩⟩ rfl (by simpa using hnp) hM.2.2.2.2.1 rfl (lv_room (g_stk G st hst)) hd hcs) (fun v A' hQ => by obtain ⟨rfl, rfl⟩ := hQ; exact k q h2 h3)
theorem AW_callPr {y : MethodName} {cc : ByteArray} {n d mc ms np i : Nat} {ret : Option FieldType} {As : List Value} {F : Option (Option Nat × hP)} {f : Option Nat × hP → Option β} {r : Option Nat} {ci : Nat} {cl : vw_C} (hd : decode M.2.1 pc = .ok (.invokespecial i, 3)) (hT : ∀ w ∈ gT, w ∈ M.2.2.2.2) (hcl : vwCl[ci]? = some cl) (hlk : Cond.methodLink M.1.cls i y ∈ gT) (hsam : Cond.sameMethod y.cls y.cls y.name y.desc ∈ gT) (hsup : Cond.superclass M.1.cls y.cls ∈ gT) (hinm : Cond.instanceMethod y ∈ gT) (hini : Cond.initialized y.cls ∈ gT) (hcode : Cond.code y cc n ret ∈ gT) (hdesc : y.name ≠ "<init>" ∧ (parseMethodDescriptor y.desc).map (fun d => d.parameters.length) = some np) (hR : d + 1 ≤ R.frames ∧ 8 + (n + 11) + 36 * d ≤ R.locals) (hcs : cs + mc ≤ R.cells ∧ ss + ms ≤ R.slots) (hst : st.length ≤ 4) (hnp : As.length = np) (h : ((oCk A r ci).bind fun _ => F.bind f) = some res) (hC : ∀ q, F = some q → Ct l (gMk y cc n ret) d mc ms A (va_rf r :: As) (gr q)) (k : ∀ q, F = some q → f q = some res → AW l M R G Qf q.2 (cs + mc) (ss + ms) (pc + 3) ls (va_rf q.1 :: st)) : AW l M R G Qf A cs ss pc ls (As.reverse ++ va_rf r :: st) := by
  intro p e s m args below meth c H locs la hF hM
  obtain ⟨_, h1, h0⟩ := bd h
  obtain ⟨q, h2, h3⟩ := bd h0
  obtain ⟨b, fs, rfl, h5⟩ := oCk_s h1
  have hts := hF.1.2.2.2.2.2.1
  have htg : ∀ w ∈ gT, w.before args s = true := fun w h => hts w (hT w h)
  rw [List.map_append, List.map_reverse, List.map_cons, g_ref hM h5]
  exact g_run (Q := gr q) hF hM (va_runSU (C := cl.1) (hF.2.1.1 ci cl hcl).2 (g_K0 hF) (hC q h2 G) ⟨⟨rfl, rfl, hR.1, hR.2, pay_in hts (gT_good hT hcode), List.mem_cons_self⟩, htg _ hlk, htg _ hsam, htg _ hsup, htg _ hinm, htg _ hini, htg _ hcode, hdesc.1, (fun sig hs => by have h2 := hdesc.2; rw [hs] at h2; exact (Option.some.inj h2).symm)⟩ ⟨g_blind G A _, va_recv hF.2.1 hM.1 hcl (g_ws_get G h5), fun U hU hW => ⟨by rw [List.map_cons, g_ref hM h5], g_pre hF hM hU hW⟩⟩ rfl (by simpa using hnp) hM.2.2.2.2.1 rfl (lv_room (g_stk G st hst)) hd hcs) (fun v A' hQ => by obtain ⟨rfl, rfl⟩ := hQ; exact k q h2 h3)
theorem AW_callSu {y : MethodName} {cc : ByteArray} {n d mc ms np i : Nat} {ret : Option FieldType} {As : List Value} {F : Option (Unit × hP)} {f : Unit × hP → Option β} (hd : decode M.2.1 pc = .ok (.invokestatic i, 3)) (hT : ∀ w ∈ gT, w ∈ M.2.2.2.2) (hlk : Cond.methodLink M.1.cls i y ∈ gT) (hstc : Cond.static y ∈ gT) (hini : Cond.initialized y.cls ∈ gT) (hcode : Cond.code y cc n ret ∈ gT) (hdesc : y.cls ≠ "java/lang/invoke/MethodHandle" ∧ y.cls ≠ "java/lang/invoke/VarHandle" ∧ (parseMethodDescriptor y.desc).map (fun d => d.parameters.length) = some np) (hR : d + 1 ≤ R.frames ∧ 8 + (n + 11) + 36 * d ≤ R.locals) (hcs : cs + mc ≤ R.cells ∧ ss + ms ≤ R.slots) (hst : st.length ≤ 4) (hnp : As.length = np) (h : F.bind f = some res) (hC : ∀ q, F = some q → Ct l (gMk y cc n ret) d mc ms A (As) (gu q)) (k : ∀ q, F = some q → f q = some res → AW l M R G Qf q.2 (cs + mc) (ss + ms) (pc + 3) ls (st)) : AW l M R G Qf A cs ss pc ls (As.reverse ++ st) := by
  intro p e s m args below meth c H locs la hF hM
  obtain ⟨q, h2, h3⟩ := bd h
  have hts := hF.1.2.2.2.2.2.1
  rw [List.map_append, List.map_reverse]
  exact g_run (Q := gu q) hF hM (va_runS (g_K0 hF) (hC q h2 G) ⟨callB_of np hts (gT_good hT hcode) rfl rfl rfl (hts _ (hT _ hini)) (hts _ (hT _ hlk)) hdesc hR, hts _ (hT _ hstc)⟩ ⟨g_blind G A _, fun U hU hW => ⟨rfl, g_pre hF hM hU hW⟩⟩ rfl (by simpa using hnp) hM.2.2.2.2.1 rfl (lv_room (g_stk G st hst)) hd hcs) (fun v A' hQ => by obtain ⟨rfl, rfl⟩ := hQ; exact k q h2 h3)
theorem AW_callVu {y : MethodName} {cc : ByteArray} {n d mc ms np i : Nat} {ret : Option FieldType} {As : List Value} {F : Option (Unit × hP)} {f : Unit × hP → Option β} {r : Option Nat} {ci : Nat} {cl : vw_C} (hd : decode M.2.1 pc = .ok (.invokevirtual i, 3)) (hT : ∀ w ∈ gT, w ∈ M.2.2.2.2) (hcl : vwCl[ci]? = some cl) (hlk : Cond.methodLink M.1.cls i y ∈ gT) (hinm : Cond.instanceMethod y ∈ gT) (hsel : Cond.selects cl.1 y y ∈ gT) (hini : Cond.initialized y.cls ∈ gT) (hcode : Cond.code y cc n ret ∈ gT) (hdesc : y.cls ≠ "java/lang/invoke/MethodHandle" ∧ y.cls ≠ "java/lang/invoke/VarHandle" ∧ (parseMethodDescriptor y.desc).map (fun d => d.parameters.length) = some np) (hR : d + 1 ≤ R.frames ∧ 8 + (n + 11) + 36 * d ≤ R.locals) (hcs : cs + mc ≤ R.cells ∧ ss + ms ≤ R.slots) (hst : st.length ≤ 4) (hnp : As.length = np) (h : ((oCk A r ci).bind fun _ => F.bind f) = some res) (hC : ∀ q, F = some q → Ct l (gMk y cc n ret) d mc ms A (va_rf r :: As) (gu q)) (k : ∀ q, F = some q → f q = some res → AW l M R G Qf q.2 (cs + mc) (ss + ms) (pc + 3) ls (st)) : AW l M R G Qf A cs ss pc ls (As.reverse ++ va_rf r :: st) := by
  intro p e s m args below meth c H locs la hF hM
  obtain ⟨_, h1, h0⟩ := bd h
  obtain ⟨q, h2, h3⟩ := bd h0
  obtain ⟨b, fs, rfl, h5⟩ := oCk_s h1
  have hts := hF.1.2.2.2.2.2.1
  rw [List.map_append, List.map_reverse, List.map_cons, g_ref hM h5]
  exact g_run (Q := gu q) hF hM (va_runV (C := cl.1) (g_K0 hF) (hC q h2 G) ⟨callB_of np hts (gT_good hT hcode) rfl rfl rfl (hts _ (hT _ hini)) (hts _ (hT _ hlk)) hdesc hR, hts _ (hT _ hinm), hts _ (hT _ hsel)⟩ ⟨g_blind G A _, va_recv hF.2.1 hM.1 hcl (g_ws_get G h5), fun U hU hW => ⟨by rw [List.map_cons, g_ref hM h5], g_pre hF hM hU hW⟩⟩ rfl (by simpa using hnp) hM.2.2.2.2.1 rfl (lv_room (g_stk G st hst)) hd hcs) (fun v A' hQ => by obtain ⟨rfl, rfl⟩ := hQ; exact k q h2 h3)
theorem AW_callUu {y : MethodName} {cc : ByteArray} {n d mc ms np i : Nat} {ret : Option FieldType} {As : List Value} {F : Option (Unit × hP)} {f : Unit × hP → Option β} {r : Option Nat} {ci : Nat} {cl : vw_C} {x : MethodName} (hd : decode M.2.1 pc = .ok (.invokevirtual i, 3)) (hT : ∀ w ∈ gT, w ∈ M.2.2.2.2) (hcl : vwCl[ci]? = some cl) (hlk : Cond.methodLink M.1.cls i x ∈ gT) (hsam : Cond.sameMethod x.cls x.cls x.name x.desc ∈ gT) (hdec : ∀ U : State, (∃ a : Array Value, ∀ w ∈ gT, w.before a U = true) → g_Old G U → va_Decl U x) (hinm : Cond.instanceMethod y ∈ gT) (hsel : Cond.selects cl.1 x y ∈ gT) (hini : Cond.initialized y.cls ∈ gT) (hcode : Cond.code y cc n ret ∈ gT) (hdesc : x.cls ≠ "java/lang/invoke/MethodHandle" ∧ x.cls ≠ "java/lang/invoke/VarHandle" ∧ (parseMethodDescriptor x.desc).map (fun d => d.parameters.length) = some np) (hR : d + 1 ≤ R.frames ∧ 8 + (n + 11) + 36 * d ≤ R.locals) (hcs : cs + mc ≤ R.cells ∧ ss + ms ≤ R.slots) (hst : st.length ≤ 4) (hnp : As.length = np) (h : ((oCk A r ci).bind fun _ => F.bind f) = some res) (hC : ∀ q, F = some q → Ct l (gMk y cc n ret) d mc ms A (va_rf r :: As) (gu q)) (k : ∀ q, F = some q → f q = some res → AW l M R G Qf q.2 (cs + mc) (ss + ms) (pc + 3) ls (st)) : AW l M R G Qf A cs ss pc ls (As.reverse ++ va_rf r :: st) := by
  intro p e s m args below meth c H locs la hF hM
  obtain ⟨_, h1, h0⟩ := bd h
  obtain ⟨q, h2, h3⟩ := bd h0
  obtain ⟨b, fs, rfl, h5⟩ := oCk_s h1
  have hts := hF.1.2.2.2.2.2.1
  have htg : ∀ w ∈ gT, w.before args s = true := fun w h => hts w (hT w h)
  rw [List.map_append, List.map_reverse, List.map_cons, g_ref hM h5]
  exact g_run (Q := gu q) hF hM (va_runU (C := cl.1) (owner := x.cls) (x := x) (g_K0 hF) (hC q h2 G) ⟨⟨rfl, rfl, hR.1, hR.2, pay_in hts (gT_good hT hcode), List.mem_cons_self⟩, htg _ hcode, htg _ hini, ⟨hdesc.1, hdesc.2.1⟩, (fun sig hs => by have h2 := hdesc.2.2; rw [hs] at h2; exact (Option.some.inj h2).symm), htg _ hlk, htg _ hsam, hdec s ⟨args, htg⟩ hF.2.2.1, htg _ hsel, htg _ hinm⟩ ⟨g_blind G A _, va_recv hF.2.1 hM.1 hcl (g_ws_get G h5), fun U hU hW => ⟨by rw [List.map_cons, g_ref hM h5], g_pre hF hM hU hW⟩⟩ rfl (by simpa using hnp) hM.2.2.2.2.1 rfl (lv_room (g_stk G st hst)) hd hcs) (fun v A' hQ => by obtain ⟨rfl, rfl⟩ := hQ; exact k q h2 h3)
theorem AW_callPu {y : MethodName} {cc : ByteArray} {n d mc ms np i : Nat} {ret : Option FieldType} {As : List Value} {F : Option (Unit × hP)} {f : Unit × hP → Option β} {r : Option Nat} {ci : Nat} {cl : vw_C} (hd : decode M.2.1 pc = .ok (.invokespecial i, 3)) (hT : ∀ w ∈ gT, w ∈ M.2.2.2.2) (hcl : vwCl[ci]? = some cl) (hlk : Cond.methodLink M.1.cls i y ∈ gT) (hsam : Cond.sameMethod y.cls y.cls y.name y.desc ∈ gT) (hsup : Cond.superclass M.1.cls y.cls ∈ gT) (hinm : Cond.instanceMethod y ∈ gT) (hini : Cond.initialized y.cls ∈ gT) (hcode : Cond.code y cc n ret ∈ gT) (hdesc : y.name ≠ "<init>" ∧ (parseMethodDescriptor y.desc).map (fun d => d.parameters.length) = some np) (hR : d + 1 ≤ R.frames ∧ 8 + (n + 11) + 36 * d ≤ R.locals) (hcs : cs + mc ≤ R.cells ∧ ss + ms ≤ R.slots) (hst : st.length ≤ 4) (hnp : As.length = np) (h : ((oCk A r ci).bind fun _ => F.bind f) = some res) (hC : ∀ q, F = some q → Ct l (gMk y cc n ret) d mc ms A (va_rf r :: As) (gu q)) (k : ∀ q, F = some q → f q = some res → AW l M R G Qf q.2 (cs + mc) (ss + ms) (pc + 3) ls (st)) : AW l M R G Qf A cs ss pc ls (As.reverse ++ va_rf r :: st) := by
  intro p e s m args below meth c H locs la hF hM
  obtain ⟨_, h1, h0⟩ := bd h
  obtain ⟨q, h2, h3⟩ := bd h0
  obtain ⟨b, fs, rfl, h5⟩ := oCk_s h1
  have hts := hF.1.2.2.2.2.2.1
  have htg : ∀ w ∈ gT, w.before args s = true := fun w h => hts w (hT w h)
  rw [List.map_append, List.map_reverse, List.map_cons, g_ref hM h5]
  exact g_run (Q := gu q) hF hM (va_runSU (C := cl.1) (hF.2.1.1 ci cl hcl).2 (g_K0 hF) (hC q h2 G) ⟨⟨rfl, rfl, hR.1, hR.2, pay_in hts (gT_good hT hcode), List.mem_cons_self⟩, htg _ hlk, htg _ hsam, htg _ hsup, htg _ hinm, htg _ hini, htg _ hcode, hdesc.1, (fun sig hs => by have h2 := hdesc.2; rw [hs] at h2; exact (Option.some.inj h2).symm)⟩ ⟨g_blind G A _, va_recv hF.2.1 hM.1 hcl (g_ws_get G h5), fun U hU hW => ⟨by rw [List.map_cons, g_ref hM h5], g_pre hF hM hU hW⟩⟩ rfl (by simpa using hnp) hM.2.2.2.2.1 rfl (lv_room (g_stk G st hst)) hd hcs) (fun v A' hQ => by obtain ⟨rfl, rfl⟩ := hQ; exact k q h2 h3)
theorem AW_callIu {y : MethodName} {cc : ByteArray} {n d mc ms np i : Nat} {As : List Value} {F : Option (Unit × hP)} {f : Unit × hP → Option β} {r : Option Nat} {ci : Nat} (hd : decode M.2.1 pc = .ok (.invokespecial i, 3)) (hT : ∀ w ∈ gT, w ∈ M.2.2.2.2) (hlk : Cond.methodLink M.1.cls i y ∈ gT) (hinm : Cond.instanceMethod y ∈ gT) (hini : Cond.initialized y.cls ∈ gT) (hcode : Cond.code y cc n none ∈ gT) (hy1 : y.name = "<init>") (hdesc : y.cls ≠ "java/lang/invoke/MethodHandle" ∧ y.cls ≠ "java/lang/invoke/VarHandle" ∧ (parseMethodDescriptor y.desc).map (fun d => d.parameters.length) = some np) (hR : d + 1 ≤ R.frames ∧ 8 + (n + 11) + 36 * d ≤ R.locals) (hcs : cs + mc ≤ R.cells ∧ ss + ms ≤ R.slots) (hst : st.length ≤ 4) (hnp : As.length = np) (h : ((oCk A r ci).bind fun _ => F.bind f) = some res) (hC : ∀ q, F = some q → Ct l (gMk y cc n none) d mc ms A (va_rf r :: As) (gu q)) (k : ∀ q, F = some q → f q = some res → AW l M R G Qf q.2 (cs + mc) (ss + ms) (pc + 3) ls (st)) : AW l M R G Qf A cs ss pc ls (As.reverse ++ va_rf r :: st) := by
  intro p e s m args below meth c H locs la hF hM
  obtain ⟨_, h1, h0⟩ := bd h
  obtain ⟨q, h2, h3⟩ := bd h0
  obtain ⟨b, fs, rfl, h5⟩ := oCk_s h1
  have hts := hF.1.2.2.2.2.2.1
  rw [List.map_append, List.map_reverse, List.map_cons, g_ref hM h5]
  exact g_run (Q := gu q) hF hM (va_runI (g_K0 hF) (hC q h2 G) ⟨callB_of np hts (gT_good hT hcode) rfl rfl rfl (hts _ (hT _ hini)) (hts _ (hT _ hlk)) hdesc hR, hy1, hts _ (hT _ hinm)⟩ ⟨g_blind G A _, fun U hU hW => ⟨by rw [List.map_cons, g_ref hM h5], g_pre hF hM hU hW⟩⟩ rfl (by simpa using hnp) hM.2.2.2.2.1 rfl (lv_room (g_stk G st hst)) hd hcs) (fun v A' hQ => by obtain ⟨rfl, rfl⟩ := hQ; exact k q h2 h3)
theorem AW_callNu {y : MethodName} {cc : ByteArray} {n d mc ms np i : Nat} {As : List Value} {F : Option (Unit × hP)} {f : Unit × hP → Option β} {r : Option Nat} {ci : Nat} {host : String} (hd : decode M.2.1 pc = .ok (.invokespecial i, 3)) (hT : ∀ w ∈ gT, w ∈ M.2.2.2.2) (hlk : (M.1.cls, i, y, host) ∈ g_nest) (hinm : Cond.instanceMethod y ∈ gT) (hini : Cond.initialized y.cls ∈ gT) (hcode : Cond.code y cc n none ∈ gT) (hy1 : y.name = "<init>") (hdesc : y.cls ≠ "java/lang/invoke/MethodHandle" ∧ y.cls ≠ "java/lang/invoke/VarHandle" ∧ (parseMethodDescriptor y.desc).map (fun d => d.parameters.length) = some np) (hR : d + 1 ≤ R.frames ∧ 8 + (n + 11) + 36 * d ≤ R.locals) (hcs : cs + mc ≤ R.cells ∧ ss + ms ≤ R.slots) (hst : st.length ≤ 4) (hnp : As.length = np) (h : ((oCk A r ci).bind fun _ => F.bind f) = some res) (hC : ∀ q, F = some q → Ct l (gMk y cc n none) d mc ms A (va_rf r :: As) (gu q)) (k : ∀ q, F = some q → f q = some res → AW l M R G Qf q.2 (cs + mc) (ss + ms) (pc + 3) ls (st)) : AW l M R G Qf A cs ss pc ls (As.reverse ++ va_rf r :: st) := by
  intro p e s m args below meth c H locs la hF hM
  obtain ⟨_, h1, h0⟩ := bd h
  obtain ⟨q, h2, h3⟩ := bd h0
  obtain ⟨b, fs, rfl, h5⟩ := oCk_s h1
  have hts := hF.1.2.2.2.2.2.1
  rw [List.map_append, List.map_reverse, List.map_cons, g_ref hM h5]
  exact g_run (Q := gu q) hF hM (va_runIN (host := host) (g_K0 hF) (hC q h2 G) ⟨va_cnB np hts (gT_good hT hcode) rfl rfl rfl (hF.2.2.1.2.2.2.1 _ hlk) (hts _ (hT _ hini)) hdesc hR, hy1, hts _ (hT _ hinm)⟩ ⟨g_blind G A _, fun U hU hW => ⟨by rw [List.map_cons, g_ref hM h5], g_pre hF hM hU hW⟩⟩ rfl (by simpa using hnp) hM.2.2.2.2.1 rfl (lv_room (g_stk G st hst)) hd hcs) (fun v A' hQ => by obtain ⟨rfl, rfl⟩ := hQ; exact k q h2 h3)
/-- Object's constructor -/
theorem AW_objInit {i : Nat} {r : Option Nat} {ci : Nat} {f : Option β} (hd : decode M.2.1 pc = .ok (.invokespecial i, 3)) (hT : ∀ w ∈ gT, w ∈ M.2.2.2.2) (hlk : Cond.methodLink M.1.cls i objectInit ∈ gT) (hinm : Cond.instanceMethod objectInit ∈ gT) (hcode : Cond.code objectInit ⟨#[0xb1]⟩ 1 none ∈ gT) (hR : 1 ≤ R.frames ∧ 20 ≤ R.locals) (hst : st.length ≤ 4) (h : ((oCk A r ci).bind fun _ => f) = some res) (k : f = some res → AW l M R G Qf A cs ss (pc + 3) ls st) : AW l M R G Qf A cs ss pc ls (va_rf r :: st) := by
  intro p e s m args below meth c H locs la hF hM
  obtain ⟨_, h1, h0⟩ := bd h
  obtain ⟨b, fs, rfl, h5⟩ := oCk_s h1
  have hts := hF.1.2.2.2.2.2.1
  rw [List.map_cons, g_ref hM h5]
  refine W.objInit hF.1.1 hF.1.2.1 hF.1.2.2.2.2.1 (hts _ (hT _ hlk)) (hts _ (hT _ hinm)) (hts _ (hT _ hcode)) rfl (hM.2.2.2.2.1.trans hF.1.2.2.2.1.symm) rfl hd hR.1 ?_ (k h0 p e s m args below meth c H locs la hF hM)
  have h6 := g_stk G st hst
  show 2 * 0 + _ + 12 ≤ _
  omega
-- returns
theorem g_end {p : Program} {s t : State} {m : MethodId} {args : Array Value} {meth : Method} {c : Code} {H : Heap} {locs : List Loc} {la : Array Slot} {nL : Nat} {Q : Option Value → hP → Prop} {v : Option Value} (hM : g_V nL G A s H locs ls la) (hQ : Q v A) (ht : t.heap = H) : g_Qc G Q args s (.returned (v.map (g_em G))) t :=
  ⟨v, A, rfl, hQ, by rw [ht]; exact hM.1, by rw [ht]; exact hM.2.1, hM.2.2.1, hM.2.2.2.1.F ht⟩
theorem AW_iret {mc ms : Nat} {x : Int32} {res : Int32 × hP} (hd : decode M.2.1 pc = .ok (.ireturn, 1)) (hr : M.2.2.2.1 = some .int) (hc : cs ≤ mc ∧ ss ≤ ms) (h : some (x, A) = some res) : AW l M R G (g_Qf G (gi res) mc ms) A cs ss pc ls [.int x] := by
  intro p e s m args below meth c H locs la hF hM
  cases h
  refine W.widen hc.1 hc.2 ?_
  exact W.iret hF.1.1 hF.1.2.1 (hF.1.2.2.1.trans hr) (fun t ht hW => g_end (v := some (.int x)) (p := p) (m := m) (meth := meth) (c := c) hM ⟨rfl, rfl⟩ ht) hM.2.2.2.1.2.2 hd hF.1.2.2.2.2.2.2.1
theorem AW_zret {mc ms : Nat} {x : Int32} {res : Int32 × hP} (hd : decode M.2.1 pc = .ok (.ireturn, 1)) (hr : M.2.2.2.1 = some .boolean) (hc : cs ≤ mc ∧ ss ≤ ms) (h : (if x = 0 ∨ x = 1 then some (x, A) else none) = some res) : AW l M R G (g_Qf G (gi res) mc ms) A cs ss pc ls [.int x] := by
  intro p e s m args below meth c H locs la hF hM
  split at h
  case isFalse => cases h
  rename_i h9
  cases h
  refine W.widen hc.1 hc.2 ?_
  exact W.zret hF.1.1 hF.1.2.1 (hF.1.2.2.1.trans hr) (nz_z h9).1 (fun t ht hW => g_end (v := some (.int x)) (p := p) (m := m) (meth := meth) (c := c) hM ⟨rfl, rfl⟩ ht) hM.2.2.2.1.2.2 hd hF.1.2.2.2.2.2.2.1
theorem AW_lret {mc ms : Nat} {x : Int64} {res : Int64 × hP} (hd : decode M.2.1 pc = .ok (.lreturn, 1)) (hr : M.2.2.2.1 = some .long) (hc : cs ≤ mc ∧ ss ≤ ms) (h : some (x, A) = some res) : AW l M R G (g_Qf G (gl res) mc ms) A cs ss pc ls [.long x] := by
  intro p e s m args below meth c H locs la hF hM
  cases h
  refine W.widen hc.1 hc.2 ?_
  exact W.lret hF.1.1 hF.1.2.1 (hF.1.2.2.1.trans hr) (fun t ht hW => g_end (v := some (.long x)) (p := p) (m := m) (meth := meth) (c := c) hM ⟨rfl, rfl⟩ ht) hM.2.2.2.1.2.2 hd hF.1.2.2.2.2.2.2.1
theorem AW_vret {mc ms : Nat} {res : Unit × hP} (hd : decode M.2.1 pc = .ok (.return_, 1)) (hr : M.2.2.2.1 = none) (hc : cs ≤ mc ∧ ss ≤ ms) (h : some ((), A) = some res) : AW l M R G (g_Qf G (gu res) mc ms) A cs ss pc ls [] := by
  intro p e s m args below meth c H locs la hF hM
  cases h
  refine W.widen hc.1 hc.2 ?_
  exact W.vret hF.1.1 hF.1.2.1 (hF.1.2.2.1.trans hr) (fun t ht hW => g_end (v := none) (p := p) (m := m) (meth := meth) (c := c) hM ⟨rfl, rfl⟩ ht) hM.2.2.2.1.2.2 hd hF.1.2.2.2.2.2.2.1
theorem AW_aret {mc ms : Nat} {x : Option Nat} {C : String} {res : Option Nat × hP} (hd : decode M.2.1 pc = .ok (.areturn, 1)) (hr : M.2.2.2.1 = some (.object C)) (hc : cs ≤ mc ∧ ss ≤ ms) (h : some (x, A) = some res) : AW l M R G (g_Qf G (gr res) mc ms) A cs ss pc ls [va_rf x] := by
  intro p e s m args below meth c H locs la hF hM
  cases h
  refine W.widen hc.1 hc.2 ?_
  exact W.aret hF.1.1 hF.1.2.1 (hF.1.2.2.1.trans hr) (Or.inl ⟨C, rfl⟩) (by rw [g_em_rf]; exact va_rf_or _) (fun t ht hW => g_end (v := some (va_rf x)) (p := p) (m := m) (meth := meth) (c := c) hM ⟨rfl, rfl⟩ ht) hM.2.2.2.1.2.2 hd hF.1.2.2.2.2.2.2.1
end AWC
/-- the locals at a method's entry, by their places -/
def g_pos (lv : List (Nat × Value)) (n : Nat) : List (Option Value) := (List.range n).map (fun i => (lv.find? (fun q => q.1 == i)).map (fun q => q.2))
theorem g_pos_s {lv : List (Nat × Value)} {n i : Nat} {v : Value} (h : (g_pos lv n)[i]? = some (some v)) : (i, v) ∈ lv := by
  unfold g_pos at h
  rw [List.getElem?_map] at h
  cases hr : (List.range n)[i]? with
  | none => rw [hr] at h; cases h
  | some j =>
    have hj : j = i := by
      have := List.getElem?_eq_some_iff.mp hr
      obtain ⟨h1, h2⟩ := this
      simpa using h2.symm
    subst hj
    rw [hr] at h
    simp only [Option.map_some, Option.some.injEq] at h
    cases hf : lv.find? (fun q => q.1 == j) with
    | none => rw [hf] at h; cases h
    | some q =>
      rw [hf] at h
      simp only [Option.map_some, Option.some.injEq] at h
      have h3 := List.mem_of_find?_eq_some hf
      have h4 := List.find?_some hf
      have h5 : q.1 = j := by simpa using h4
      rw [← h5, ← h]
      exact h3
theorem g_args_map (G : gS) : ∀ (as : List Value) (n : Nat), lv_args n (as.map (g_em G)) = (lv_args n as).map (g_lm G)
  | [], _ => rfl
  | v :: vs, n => by
    simp only [List.map_cons, lv_args, g_em_cat, g_args_map G vs]
    rfl
theorem g_sl_len (as : List Value) : (lg_sl as).length = (as.map fun v => v.category).sum := by
  induction as with
  | nil => rfl
  | cons v vs ih =>
    have e : lg_sl (v :: vs) = (if v.category = 2 then [Slot.val v, .second] else [.val v]) ++ lg_sl vs := rfl
    rw [e, List.length_append, ih, List.map_cons, List.sum_cons]
    rcases lv_cat v with h | h <;> simp [h]
/-- a contract out of a walk from the entry -/
theorem Ct.of {l : Launch} {y : MethodName} {cc : ByteArray} {n : Nat} {ret : Option FieldType} {d mc ms : Nat} {A : hP} {as : List Value} {Q : Option Value → hP → Prop} {lv : List (Nat × Value)} {ls : List (Option Value)} (hy : plainName y.cls = true) (ha : lv_args 0 as = lv) (hl : g_pos lv n = ls) (hn : (as.map fun v => v.category).sum ≤ n) (h : ∀ G : gS, AW l (gMk y cc n ret) (g_rm d mc ms) G (g_Qf G Q mc ms) A 0 0 0 ls []) : Ct l (gMk y cc n ret) d mc ms A as Q := by
  intro G
  refine Met.ofW (cc := cc) (maxL := n) (ret := ret) hy rfl ?_
  intro p e s m args below meth c s₁ B hml hv
  obtain ⟨rfl, hP, hK, hO, hz, hlen⟩ := hv
  have hts := atoms_spec (ws := Cond.code y cc n ret :: gT) B.pre
  rw [lg_entry_eq]
  have hle : (lg_sl (as.map (g_em G))).length ≤ n := by
    rw [g_sl_len, List.map_map]
    have : (fun v => Value.category v) ∘ g_em G = fun v => v.category := by funext v; exact g_em_cat G v
    rw [this]; exact hn
  have hen := lv_entry (as.map (g_em G)) (n := n) hle
  refine h G p e s m _ below meth c s.heap [] _ ⟨⟨B.exec, B.bytes, B.returns, hml, findClass_of_methodNamed B.named, hts, B.notSynchronized, (name_of_methodNamed B.named B.method).1⟩, hK, hO, by omega⟩ ⟨hP, hz, hlen, va_S.rf, hen.1, hen.2.1, fun i v hv => ?_⟩
  rw [← hl] at hv
  have h1 := g_pos_s hv
  rw [← ha] at h1
  have h2 : (i, g_em G v) ∈ lv_args 0 (as.map (g_em G)) := by
    rw [g_args_map]
    exact List.mem_map.mpr ⟨(i, v), h1, rfl⟩
  exact hen.2.2 _ h2
end
section
section AWN
variable {l : Launch} {M : gM} {R : Room} {G : gS} {Qf : Array Value → State → List Frame → State → Prop} {A : hP} {cs ss pc : Nat} {ls : List (Option Value)} {st : List Value} {β : Type} {res : β}
theorem g_V.push {nL : Nat} {s : State} {H H1 : Heap} {locs : List Loc} {la : Array Slot} {c1 : va_E} (hM : g_V nL G A s H locs ls la) (hn : A.length < 1000000) (hz : H1.size = H.size + 1) (ho : ∀ q : Nat, q < H.size → H1[q]? = H[q]?) (hat : va_at G.2.1 vwCl (G.1 + A.length, g_ce G c1) H1) : g_V nL G (A ++ [c1]) s H1 locs ls la := by
  obtain ⟨h1, h2, h3, h4, h5⟩ := hM
  refine ⟨?_, by rw [hz, h2, List.length_append]; simp; omega, by rw [List.length_append]; simp; omega, ⟨by rw [hz]; exact Nat.le_trans h4.1 (Nat.le_succ _), fun q a b => (ho q (Nat.lt_of_lt_of_le a h4.1)).trans (h4.2.1 q a b), h4.2.2⟩, h5⟩
  rw [g_ws_app]
  refine (h1.kept fun k x hx => ho x.1 ((h1 k x hx).lt)).app (fun k x hx => ?_)
  have hz : k < 1 := (List.getElem?_eq_some_iff.mp hx).1
  rw [show k = 0 by omega] at hx
  cases hx
  exact hat
theorem AW_new {ci N i : Nat} {C : String} {T : u_T} {ty0 : Nat → FieldType} {fs : List Value} {f : Option β} (hd : decode M.2.1 pc = .ok (.new i, 3)) (hc : vwCl[ci]? = some (C, T, N)) (hin : ∀ w ∈ u_ws C T N, w ∈ M.2.2.2.2) (hty : ∀ k, k < N → parseFieldDescriptor (T k).2.2.1 = some (ty0 k)) (hlk : Cond.classLink M.1.cls i C ∈ M.2.2.2.2) (hins : Cond.instantiable C N ∈ M.2.2.2.2) (hini : Cond.initialized C ∈ M.2.2.2.2) (hfs : ∀ j, j < N → defaultValue (ty0 j) = vp_V fs j) (hem : ∀ G : gS, fs.map (g_em G) = fs)
    (hcs : cs + 1 ≤ R.cells ∧ ss + N ≤ R.slots) (h : (if A.length < 1000000 then f else none) = some res) (k : f = some res → AW l M R G Qf (A ++ [.inr (ci, fs)]) (cs + 1) (ss + N) (pc + 3) ls (va_rf (some A.length) :: st)) : AW l M R G Qf A cs ss pc ls st := by
  intro p e s m args below meth c H locs la hF hM
  split at h
  case isFalse => cases h
  rename_i hn
  have h6 := k h
  have hts := hF.1.2.2.2.2.2.1
  have hKn := hF.2.1.1 ci _ hc
  refine W.newcK hF.1.1 hF.1.2.1 hF.1.2.2.2.2.1 (hts _ hlk) (hts _ hins) (hts _ hini) rfl hd hcs.1 hcs.2 hKn.2.1 hM.2.1 fun H1 kC hkC e1 z1 o1 => ?_
  have hsz := hM.2.1
  have h7 := h6 p e s m args below meth c H1 locs la hF (g_V.push hM hn (by omega) (fun q hq => o1 q (by omega)) ?_)
  · rw [List.map_cons] at h7
    have hr : g_em G (va_rf (some A.length)) = .ref (G.1 + A.length) := by
      show Value.ref (g_ad G A.length) = _
      rw [g_ad_lt G hn]
    rw [hr] at h7
    exact h7
  · refine ⟨_, hc, ?_⟩
    show t_OB _ _ _ _ _ (vp_V (fs.map (g_em G)))
    rw [hem]
    exact (u_born ty0 hts hin hKn hkC e1 hty).to hfs
theorem AW_newa {t : Nat} {n : Int32} {N : Nat} {aty : ArrayType} {ty : FieldType} {f : Option β} (hd : decode M.2.1 pc = .ok (.newarray aty, 2)) (harr : Cond.arrayClass ty ∈ M.2.2.2.2) (hat : newarray.typeOf aty = ty) (ht : ∀ G : gS, (g_ty G)[t]? = some (G.2.2.2 t, ty)) (hprim : ty = .int ∨ ty = .byte ∨ ty = .boolean) (hn : ¬ n < 0) (hN : n.toNatClampNeg = N) (hbytes : N * componentBytes ty ≤ 536870912)
    (hcs : cs + 1 ≤ R.cells ∧ ss + N ≤ R.slots) (h : (if A.length < 1000000 then f else none) = some res) (k : f = some res → AW l M R G Qf (A ++ [.inl (t, N, .inl (fun _ => 0))]) (cs + 1) (ss + N) (pc + 2) ls (va_rf (some A.length) :: st)) : AW l M R G Qf A cs ss pc ls (.int n :: st) := by
  intro p e s m args below meth c H locs la hF hM
  split at h
  case isFalse => cases h
  rename_i hlen
  have h6 := k h
  have hts := hF.1.2.2.2.2.2.1
  subst hat
  refine va_newaK hF.1.1 hF.1.2.1 (hts _ harr) rfl hd rfl hn hN hbytes hcs.1 hcs.2 hM.2.1 fun H1 cA e1 z1 o1 hAr hNm => ?_
  have hsz := hM.2.1
  have hcA : G.2.2.2 t = cA := by
    have h8 := (hF.2.1.2 t _ (ht G)).2
    have h9 : s.vm.findClass ("[" ++ (newarray.typeOf aty).toString) = some (G.2.2.2 t) := by
      rcases hprim with e | e | e <;> (rw [e] at h8 ⊢; exact h8)
    exact Option.some.inj (h9.symm.trans hNm)
  have h7 := h6 p e s m args below meth c H1 locs la hF (g_V.push hM hlen (by omega) (fun q hq => o1 q (by omega)) ?_)
  · rw [List.map_cons] at h7
    have hr : g_em G (va_rf (some A.length)) = .ref (G.1 + A.length) := by
      show Value.ref (g_ad G A.length) = _
      rw [g_ad_lt G hlen]
    rw [hr] at h7
    exact h7
  · show H1[G.1 + A.length]? = some (vp_cell (G.2.2.2 t) (N, .inl (fun _ => 0)))
    rw [e1, hcA, vp_cell_i]
    congr 2
    funext j
    rcases hprim with e | e | e <;> (rw [e]; rfl)
theorem AW_newq {t i : Nat} {n : Int32} {N : Nat} {C : String} {f : Option β} (hd : decode M.2.1 pc = .ok (.anewarray i, 3)) (hlk : Cond.classLink M.1.cls i C ∈ M.2.2.2.2) (hao : ∀ U : State, g_Old G U → va_AO C U) (ht : ∀ G : gS, (g_ty G)[t]? = some (G.2.2.2 t, .object C)) (hn : ¬ n < 0) (hN : n.toNatClampNeg = N) (hbytes : N * 4 ≤ 536870912)
    (hcs : cs + 1 ≤ R.cells ∧ ss + N ≤ R.slots) (h : (if A.length < 1000000 then f else none) = some res) (k : f = some res → AW l M R G Qf (A ++ [.inl (t, N, .inr (.inr (.inr (.inr (fun _ => none)))))]) (cs + 1) (ss + N) (pc + 3) ls (va_rf (some A.length) :: st)) : AW l M R G Qf A cs ss pc ls (.int n :: st) := by
  intro p e s m args below meth c H locs la hF hM
  split at h
  case isFalse => cases h
  rename_i hlen
  have h6 := k h
  have hts := hF.1.2.2.2.2.2.1
  subst hN
  refine W.anew hF.1.1 hF.1.2.1 hF.1.2.2.2.2.1 (hts _ hlk) (va_AO.use (hao s hF.2.2.1)) rfl hd rfl hn hbytes hcs.1 hcs.2 fun cA kA comp f1 f2 f3 f4 => ?_
  have hsz := hM.2.1
  have hcA : G.2.2.2 t = cA := by
    obtain ⟨kA', comp', -, -, -, h9⟩ := (hF.2.1.2 t _ (ht G)).2
    exact Option.some.inj (h9.symm.trans f1)
  have h7 := h6 p e s m args below meth c (H.push ({ cls := cA, slots := Array.replicate n.toNatClampNeg .null, vm := .none } : Cell)) locs la hF (g_V.push hM hlen (by rw [Array.size_push]) (fun q hq => by rw [Array.getElem?_push, if_neg (Nat.ne_of_lt hq)]) ?_)
  · rw [List.map_cons] at h7
    have hr : g_em G (va_rf (some A.length)) = .ref H.size := by
      show Value.ref (g_ad G A.length) = _
      rw [g_ad_lt G hlen, hsz]
    rw [hr] at h7
    exact h7
  · show (H.push _)[G.1 + A.length]? = some (vp_cell (G.2.2.2 t) (n.toNatClampNeg, .inr (.inr (.inr (.inr (fun _ => none))))))
    rw [← hsz, Array.getElem?_push_size, hcA, vp_cell_q, arrV_new]
    rfl
/-- System.arraycopy of rows of ints -/
theorem AW_acopy {i : Nat} {r q : Option Nat} {x y n : Int32} {f : hP → Option β} (hd : decode M.2.1 pc = .ok (.invokestatic i, 3)) (hT : ∀ w ∈ gT, w ∈ M.2.2.2.2) (hlk : Cond.methodLink M.1.cls i arraycopyName ∈ gT) (hnat : Cond.native arraycopyName ∈ gT) (hstc : Cond.static arraycopyName ∈ gT) (hini : Cond.initialized "java/lang/System" ∈ gT) (hR : 1 ≤ R.frames ∧ 8 + (nativeFrameWords "java/lang/System" "arraycopy" 5 + 11) ≤ R.locals) (hst : st.length ≤ 4) (h : (oK A r x q y n).bind f = some res) (k : ∀ A', oK A r x q y n = some A' → f A' = some res → AW l M R G Qf A' cs ss (pc + 3) ls st) : AW l M R G Qf A cs ss pc ls (.int n :: .int y :: va_rf q :: .int x :: va_rf r :: st) := by
  intro p e s m args below meth c H locs la hF hM
  obtain ⟨A', h1, h2⟩ := bd h
  have h6 := k A' h1 h2
  obtain ⟨a, b, m0, m1, g0, g1, rfl, rfl, ha, hb, hx, hy, hn, hl0, hl1, rfl⟩ := oK_s h1
  have hts := hF.1.2.2.2.2.2.1
  have htg : ∀ w ∈ gT, w.before args s = true := fun w h => hts w (hT w h)
  rw [List.map_cons, List.map_cons, List.map_cons, List.map_cons, List.map_cons, g_ref hM ha, g_ref hM hb]
  have nn : ∀ z : Int32, ¬ z < 0 → z.toInt = (z.toNatClampNeg : Int) := by
    intro z hz
    have hz0 : (0 : Int) ≤ z.toInt := by
      have := Int32.not_lt.mp hz
      simpa using Int32.le_iff_toInt_le.mp this
    show z.toInt = ((z.toInt.toNat : Nat) : Int)
    omega
  intro T hT' X
  have hwa := g_ws_get G ha
  have hwb := g_ws_get G hb
  have hc0 : H[G.1 + a]? = some (vp_cell (G.2.2.2 0) (m0, .inl g0)) := hM.1 a _ hwa
  have hc1 : H[G.1 + b]? = some (vp_cell (G.2.2.2 0) (m1, .inl g1)) := hM.1 b _ hwb
  obtain ⟨-, k0, hk0, cm0, hkk0⟩ := (hF.2.1.2 0 _ rfl).1 m0 (fun j => .int (g0 j))
  have hg := g_stk G st hst
  obtain ⟨vm', X', step⟩ := X.arraycopy hF.1.1 hF.1.2.2.2.2.1 (htg _ hlk) (htg _ hnat) (htg _ hstc) (htg _ hini) (src := G.1 + a) (dst := G.1 + b) (cs := vp_cell (G.2.2.2 0) (m0, .inl g0)) (cd := vp_cell (G.2.2.2 0) (m1, .inl g1)) (srcPos := x) (destPos := y) (n := n) (by rw [hT']; exact hc0) (by rw [hT']; exact hc1)
    (fun _ h => by cases h) (fun _ h => by cases h) (fun h => by cases h) (fun h => by cases h) hk0 hk0 hkk0 hkk0 (by simp [refKind]) hx hy hn
    (by rw [nn x hx, nn n hn]; show ¬ _ > ((arrV (G.2.2.2 0) m0 (fun j => .int (g0 j))).slots.size : Int); rw [arrV_size]; omega)
    (by rw [nn y hy, nn n hn]; show ¬ _ > ((arrV (G.2.2.2 0) m1 (fun j => .int (g1 j))).slots.size : Int); rw [arrV_size]; omega)
    (fun vm₁ _ i hi => by
      have e : (vp_cell (G.2.2.2 0) (m0, .inl g0)).slots.getD (x.toNatClampNeg + i) .null = .int (g0 (x.toNatClampNeg + i)) := by
        show (arrV (G.2.2.2 0) m0 (fun j => .int (g0 j))).slots.getD _ _ = _
        rw [Array.getD_eq_getD_getElem?, arrV_read _ _ (by omega)]
        rfl
      refine ⟨?_, ?_⟩
      · rw [e]
        rfl
      · rw [e]
        exact trivial)
    (g := F0 m pc la (.int n :: .int y :: .ref (G.1 + b) :: .int x :: .ref (G.1 + a) :: st.map (g_em G))) rfl (by rw [hF.1.2.2.2.1]; exact hM.2.2.2.2.1) (rest := st.map (g_em G)) rfl (by rw [hF.1.2.1]; exact hd) hR.1 (by have := hR.2; show 2 * 0 + _ + _ ≤ _; omega)
  have e1 : copied (vp_cell (G.2.2.2 0) (m0, .inl g0)) (vp_cell (G.2.2.2 0) (m1, .inl g1)) x y n = vp_cell (G.2.2.2 0) (m1, .inl (va_cpy g0 g1 x.toNatClampNeg y.toNatClampNeg n.toNatClampNeg)) := va_copied (fun z => .int z) (G.2.2.2 0) (G.2.2.2 0) g0 g1 hl0
  rw [e1] at X' step
  have hl : G.1 + b < H.size := (Array.getElem?_eq_some_iff.mp hc1).1
  have hheap : ((T.setVm vm').setCell (G.1 + b) (vp_cell (G.2.2.2 0) (m1, .inl (va_cpy g0 g1 x.toNatClampNeg y.toNatClampNeg n.toNatClampNeg)))).heap = H.setIfInBounds (G.1 + b) (vp_cell (G.2.2.2 0) (m1, .inl (va_cpy g0 g1 x.toNatClampNeg y.toNatClampNeg n.toNatClampNeg))) := by rw [← hT']; rfl
  have oq : ∀ q : Nat, q ≠ G.1 + b → (H.setIfInBounds (G.1 + b) (vp_cell (G.2.2.2 0) (m1, .inl (va_cpy g0 g1 x.toNatClampNeg y.toNatClampNeg n.toNatClampNeg))))[q]? = H[q]? := fun q hq => by simp [Array.getElem?_setIfInBounds, Ne.symm hq]
  have hS4 := hM.2.2.2.1
  obtain ⟨t, a1, b1⟩ := h6 p e s m args below meth c _ _ la hF (g_V.put hM hb (va_P.set hM.1 (g_D G A) hwb (show (H.setIfInBounds (G.1 + b) _)[G.1 + b]? = some _ by simp [Array.getElem?_setIfInBounds, hl]; rfl) oq) ⟨by simp; exact hS4.1, fun q g1 g2 => by
      rw [oq q (fun e => g2 (by rw [e]; exact Nat.le_add_right _ _))]
      exact hS4.2.1 q g1 g2, fun q hq => by
      rcases List.mem_append.mp hq with h | h
      · exact hS4.2.2 q h
      · obtain ⟨z, -, hz⟩ := List.mem_map.mp h
        rw [← hz]
        exact Nat.le_add_right _ _⟩ (by simp)) _ hheap X'
  exact ⟨t, step t a1, b1⟩
end AWN
end
