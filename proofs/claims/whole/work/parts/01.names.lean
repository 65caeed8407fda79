-- ===== PART A: goes FIRST, ahead of the names: the tables' words, and 'selects' of the private methods out of them =====
/-- a private method of a class that the tables say can be made, by its rows of tables_1 -/
def lw_okq (q : MethodName × Nat) : Prop := (q.1.cls ≠ "java/lang/invoke/MethodHandle" ∧ q.1.cls ≠ "java/lang/invoke/VarHandle") ∧ Cond.instantiable q.1.cls q.2 ∈ tables_1 ∧ Cond.privateMethod q.1 ∈ tables_1 ∧ Cond.instanceMethod q.1 ∈ tables_1
theorem lw_p0 : lw_okq (⟨"BeatenAfternoon$Tape", "put", "(II)I"⟩, 3) := ⟨⟨by decide +kernel, by decide +kernel⟩, List.mem_of_getElem? (i := 36) (by decide +kernel), List.mem_of_getElem? (i := 404) (by decide +kernel), List.mem_of_getElem? (i := 405) (by decide +kernel)⟩
theorem lw_p1 : lw_okq (⟨"BeatenAfternoon$EstateReader", "setRules", "([I)V"⟩, 4) := ⟨⟨by decide +kernel, by decide +kernel⟩, List.mem_of_getElem? (i := 57) (by decide +kernel), List.mem_of_getElem? (i := 422) (by decide +kernel), List.mem_of_getElem? (i := 423) (by decide +kernel)⟩
theorem lw_p2 : lw_okq (⟨"BeatenAfternoon$EstateReader", "readClause", "(LBeatenAfternoon$Tape;)Z"⟩, 4) := ⟨⟨by decide +kernel, by decide +kernel⟩, List.mem_of_getElem? (i := 57) (by decide +kernel), List.mem_of_getElem? (i := 426) (by decide +kernel), List.mem_of_getElem? (i := 427) (by decide +kernel)⟩
theorem lw_p3 : lw_okq (⟨"BeatenAfternoon$EstateReader", "readRules", "(LBeatenAfternoon$Tape;)Z"⟩, 4) := ⟨⟨by decide +kernel, by decide +kernel⟩, List.mem_of_getElem? (i := 57) (by decide +kernel), List.mem_of_getElem? (i := 434) (by decide +kernel), List.mem_of_getElem? (i := 435) (by decide +kernel)⟩
theorem lw_p4 : lw_okq (⟨"BeatenAfternoon$EstateReader", "readItems", "(LBeatenAfternoon$Tape;Ljava/lang/String;[I[I)Z"⟩, 4) := ⟨⟨by decide +kernel, by decide +kernel⟩, List.mem_of_getElem? (i := 57) (by decide +kernel), List.mem_of_getElem? (i := 441) (by decide +kernel), List.mem_of_getElem? (i := 442) (by decide +kernel)⟩
theorem lw_p5 : lw_okq (⟨"BeatenAfternoon$EstateReader", "readThing", "(LBeatenAfternoon$Tape;)Z"⟩, 4) := ⟨⟨by decide +kernel, by decide +kernel⟩, List.mem_of_getElem? (i := 57) (by decide +kernel), List.mem_of_getElem? (i := 544) (by decide +kernel), List.mem_of_getElem? (i := 545) (by decide +kernel)⟩
theorem lw_p6 : lw_okq (⟨"BeatenAfternoon$EstateReader", "readGun", "(LBeatenAfternoon$Tape;)Z"⟩, 4) := ⟨⟨by decide +kernel, by decide +kernel⟩, List.mem_of_getElem? (i := 57) (by decide +kernel), List.mem_of_getElem? (i := 553) (by decide +kernel), List.mem_of_getElem? (i := 554) (by decide +kernel)⟩
theorem lw_p7 : lw_okq (⟨"BeatenAfternoon$LawReader", "readClause", "(LBeatenAfternoon$Tape;)Z"⟩, 2) := ⟨⟨by decide +kernel, by decide +kernel⟩, List.mem_of_getElem? (i := 185) (by decide +kernel), List.mem_of_getElem? (i := 571) (by decide +kernel), List.mem_of_getElem? (i := 572) (by decide +kernel)⟩
theorem lw_p8 : lw_okq (⟨"BeatenAfternoon$LawReader", "readSum", "(LBeatenAfternoon$Tape;I)Z"⟩, 2) := ⟨⟨by decide +kernel, by decide +kernel⟩, List.mem_of_getElem? (i := 185) (by decide +kernel), List.mem_of_getElem? (i := 576) (by decide +kernel), List.mem_of_getElem? (i := 577) (by decide +kernel)⟩
theorem lw_p9 : lw_okq (⟨"BeatenAfternoon$LawReader", "readTerm", "(LBeatenAfternoon$Tape;I)Z"⟩, 2) := ⟨⟨by decide +kernel, by decide +kernel⟩, List.mem_of_getElem? (i := 185) (by decide +kernel), List.mem_of_getElem? (i := 580) (by decide +kernel), List.mem_of_getElem? (i := 581) (by decide +kernel)⟩
theorem lw_p10 : lw_okq (⟨"BeatenAfternoon$LawReader", "readAtom", "(LBeatenAfternoon$Tape;I)Z"⟩, 2) := ⟨⟨by decide +kernel, by decide +kernel⟩, List.mem_of_getElem? (i := 185) (by decide +kernel), List.mem_of_getElem? (i := 584) (by decide +kernel), List.mem_of_getElem? (i := 585) (by decide +kernel)⟩
theorem lw_p11 : lw_okq (⟨"BeatenAfternoon$LawReader", "write", "(I)V"⟩, 2) := ⟨⟨by decide +kernel, by decide +kernel⟩, List.mem_of_getElem? (i := 185) (by decide +kernel), List.mem_of_getElem? (i := 590) (by decide +kernel), List.mem_of_getElem? (i := 591) (by decide +kernel)⟩
theorem lw_p12 : lw_okq (⟨"BeatenAfternoon$LawReader", "readCondition", "(LBeatenAfternoon$Tape;I)Z"⟩, 2) := ⟨⟨by decide +kernel, by decide +kernel⟩, List.mem_of_getElem? (i := 185) (by decide +kernel), List.mem_of_getElem? (i := 598) (by decide +kernel), List.mem_of_getElem? (i := 599) (by decide +kernel)⟩
theorem lw_p13 : lw_okq (⟨"BeatenAfternoon$LawReader", "readTruth", "(LBeatenAfternoon$Tape;I)Z"⟩, 2) := ⟨⟨by decide +kernel, by decide +kernel⟩, List.mem_of_getElem? (i := 185) (by decide +kernel), List.mem_of_getElem? (i := 602) (by decide +kernel), List.mem_of_getElem? (i := 603) (by decide +kernel)⟩
theorem lw_p14 : lw_okq (⟨"BeatenAfternoon$LawReader", "readUnit", "(LBeatenAfternoon$Tape;I)Z"⟩, 2) := ⟨⟨by decide +kernel, by decide +kernel⟩, List.mem_of_getElem? (i := 185) (by decide +kernel), List.mem_of_getElem? (i := 606) (by decide +kernel), List.mem_of_getElem? (i := 607) (by decide +kernel)⟩
theorem lw_p15 : lw_okq (⟨"BeatenAfternoon$LawReader", "readComparison", "(LBeatenAfternoon$Tape;I)Z"⟩, 2) := ⟨⟨by decide +kernel, by decide +kernel⟩, List.mem_of_getElem? (i := 185) (by decide +kernel), List.mem_of_getElem? (i := 610) (by decide +kernel), List.mem_of_getElem? (i := 611) (by decide +kernel)⟩
def lw_privs_1 : List (MethodName × Nat) := [(⟨"BeatenAfternoon$Tape", "put", "(II)I"⟩, 3), (⟨"BeatenAfternoon$EstateReader", "setRules", "([I)V"⟩, 4), (⟨"BeatenAfternoon$EstateReader", "readClause", "(LBeatenAfternoon$Tape;)Z"⟩, 4), (⟨"BeatenAfternoon$EstateReader", "readRules", "(LBeatenAfternoon$Tape;)Z"⟩, 4), (⟨"BeatenAfternoon$EstateReader", "readItems", "(LBeatenAfternoon$Tape;Ljava/lang/String;[I[I)Z"⟩, 4), (⟨"BeatenAfternoon$EstateReader", "readThing", "(LBeatenAfternoon$Tape;)Z"⟩, 4), (⟨"BeatenAfternoon$EstateReader", "readGun", "(LBeatenAfternoon$Tape;)Z"⟩, 4), (⟨"BeatenAfternoon$LawReader", "readClause", "(LBeatenAfternoon$Tape;)Z"⟩, 2), (⟨"BeatenAfternoon$LawReader", "readSum", "(LBeatenAfternoon$Tape;I)Z"⟩, 2), (⟨"BeatenAfternoon$LawReader", "readTerm", "(LBeatenAfternoon$Tape;I)Z"⟩, 2), (⟨"BeatenAfternoon$LawReader", "readAtom", "(LBeatenAfternoon$Tape;I)Z"⟩, 2), (⟨"BeatenAfternoon$LawReader", "write", "(I)V"⟩, 2), (⟨"BeatenAfternoon$LawReader", "readCondition", "(LBeatenAfternoon$Tape;I)Z"⟩, 2), (⟨"BeatenAfternoon$LawReader", "readTruth", "(LBeatenAfternoon$Tape;I)Z"⟩, 2), (⟨"BeatenAfternoon$LawReader", "readUnit", "(LBeatenAfternoon$Tape;I)Z"⟩, 2), (⟨"BeatenAfternoon$LawReader", "readComparison", "(LBeatenAfternoon$Tape;I)Z"⟩, 2)]
theorem lw_r1 : ∀ q ∈ lw_privs_1, lw_okq q := List.forall_mem_cons.mpr ⟨lw_p0, List.forall_mem_cons.mpr ⟨lw_p1, List.forall_mem_cons.mpr ⟨lw_p2, List.forall_mem_cons.mpr ⟨lw_p3, List.forall_mem_cons.mpr ⟨lw_p4, List.forall_mem_cons.mpr ⟨lw_p5, List.forall_mem_cons.mpr ⟨lw_p6, List.forall_mem_cons.mpr ⟨lw_p7, List.forall_mem_cons.mpr ⟨lw_p8, List.forall_mem_cons.mpr ⟨lw_p9, List.forall_mem_cons.mpr ⟨lw_p10, List.forall_mem_cons.mpr ⟨lw_p11, List.forall_mem_cons.mpr ⟨lw_p12, List.forall_mem_cons.mpr ⟨lw_p13, List.forall_mem_cons.mpr ⟨lw_p14, List.forall_mem_cons.mpr ⟨lw_p15, fun _ h => absurd h List.not_mem_nil⟩⟩⟩⟩⟩⟩⟩⟩⟩⟩⟩⟩⟩⟩⟩⟩
theorem lw_p16 : lw_okq (⟨"BeatenAfternoon$LawReader", "readWorth", "(LBeatenAfternoon$Tape;)Z"⟩, 2) := ⟨⟨by decide +kernel, by decide +kernel⟩, List.mem_of_getElem? (i := 185) (by decide +kernel), List.mem_of_getElem? (i := 614) (by decide +kernel), List.mem_of_getElem? (i := 615) (by decide +kernel)⟩
theorem lw_p17 : lw_okq (⟨"BeatenAfternoon", "settle", "()I"⟩, 14) := ⟨⟨by decide +kernel, by decide +kernel⟩, List.mem_of_getElem? (i := 28) (by decide +kernel), List.mem_of_getElem? (i := 623) (by decide +kernel), List.mem_of_getElem? (i := 624) (by decide +kernel)⟩
theorem lw_p18 : lw_okq (⟨"BeatenAfternoon", "enact", "()I"⟩, 14) := ⟨⟨by decide +kernel, by decide +kernel⟩, List.mem_of_getElem? (i := 28) (by decide +kernel), List.mem_of_getElem? (i := 641) (by decide +kernel), List.mem_of_getElem? (i := 642) (by decide +kernel)⟩
theorem lw_p19 : lw_okq (⟨"BeatenAfternoon", "hasEstate", "()Z"⟩, 14) := ⟨⟨by decide +kernel, by decide +kernel⟩, List.mem_of_getElem? (i := 28) (by decide +kernel), List.mem_of_getElem? (i := 678) (by decide +kernel), List.mem_of_getElem? (i := 679) (by decide +kernel)⟩
theorem lw_p20 : lw_okq (⟨"BeatenAfternoon", "isGun", "(I)Z"⟩, 14) := ⟨⟨by decide +kernel, by decide +kernel⟩, List.mem_of_getElem? (i := 28) (by decide +kernel), List.mem_of_getElem? (i := 686) (by decide +kernel), List.mem_of_getElem? (i := 687) (by decide +kernel)⟩
theorem lw_p21 : lw_okq (⟨"BeatenAfternoon$Ground", "firstInReach", "(LBeatenAfternoon$Season;II)I"⟩, 14) := ⟨⟨by decide +kernel, by decide +kernel⟩, List.mem_of_getElem? (i := 198) (by decide +kernel), List.mem_of_getElem? (i := 717) (by decide +kernel), List.mem_of_getElem? (i := 718) (by decide +kernel)⟩
theorem lw_p22 : lw_okq (⟨"BeatenAfternoon$Ground", "take", "(II)V"⟩, 14) := ⟨⟨by decide +kernel, by decide +kernel⟩, List.mem_of_getElem? (i := 198) (by decide +kernel), List.mem_of_getElem? (i := 744) (by decide +kernel), List.mem_of_getElem? (i := 745) (by decide +kernel)⟩
theorem lw_p23 : lw_okq (⟨"BeatenAfternoon", "refuse", "(I)I"⟩, 14) := ⟨⟨by decide +kernel, by decide +kernel⟩, List.mem_of_getElem? (i := 28) (by decide +kernel), List.mem_of_getElem? (i := 756) (by decide +kernel), List.mem_of_getElem? (i := 757) (by decide +kernel)⟩
theorem lw_p24 : lw_okq (⟨"BeatenAfternoon", "driveOnce", "()V"⟩, 14) := ⟨⟨by decide +kernel, by decide +kernel⟩, List.mem_of_getElem? (i := 28) (by decide +kernel), List.mem_of_getElem? (i := 769) (by decide +kernel), List.mem_of_getElem? (i := 770) (by decide +kernel)⟩
theorem lw_p25 : lw_okq (⟨"BeatenAfternoon", "isThing", "(I)Z"⟩, 14) := ⟨⟨by decide +kernel, by decide +kernel⟩, List.mem_of_getElem? (i := 28) (by decide +kernel), List.mem_of_getElem? (i := 806) (by decide +kernel), List.mem_of_getElem? (i := 807) (by decide +kernel)⟩
theorem lw_p26 : lw_okq (⟨"BeatenAfternoon", "drawAhead", "()V"⟩, 14) := ⟨⟨by decide +kernel, by decide +kernel⟩, List.mem_of_getElem? (i := 28) (by decide +kernel), List.mem_of_getElem? (i := 819) (by decide +kernel), List.mem_of_getElem? (i := 820) (by decide +kernel)⟩
theorem lw_p27 : lw_okq (⟨"BeatenAfternoon", "draw", "(I)I"⟩, 14) := ⟨⟨by decide +kernel, by decide +kernel⟩, List.mem_of_getElem? (i := 28) (by decide +kernel), List.mem_of_getElem? (i := 823) (by decide +kernel), List.mem_of_getElem? (i := 824) (by decide +kernel)⟩
theorem lw_p28 : lw_okq (⟨"BeatenAfternoon", "logLength", "()I"⟩, 14) := ⟨⟨by decide +kernel, by decide +kernel⟩, List.mem_of_getElem? (i := 28) (by decide +kernel), List.mem_of_getElem? (i := 849) (by decide +kernel), List.mem_of_getElem? (i := 850) (by decide +kernel)⟩
theorem lw_p29 : lw_okq (⟨"BeatenAfternoon$Ground", "gunLeft", "(II)I"⟩, 14) := ⟨⟨by decide +kernel, by decide +kernel⟩, List.mem_of_getElem? (i := 198) (by decide +kernel), List.mem_of_getElem? (i := 890) (by decide +kernel), List.mem_of_getElem? (i := 891) (by decide +kernel)⟩
theorem lw_p30 : lw_okq (⟨"BeatenAfternoon$Claims", "mostBy", "(III)I"⟩, 3) := ⟨⟨by decide +kernel, by decide +kernel⟩, List.mem_of_getElem? (i := 324) (by decide +kernel), List.mem_of_getElem? (i := 942) (by decide +kernel), List.mem_of_getElem? (i := 943) (by decide +kernel)⟩
theorem lw_p31 : lw_okq (⟨"BeatenAfternoon$Claims", "firstBest", "(III)I"⟩, 3) := ⟨⟨by decide +kernel, by decide +kernel⟩, List.mem_of_getElem? (i := 324) (by decide +kernel), List.mem_of_getElem? (i := 951) (by decide +kernel), List.mem_of_getElem? (i := 952) (by decide +kernel)⟩
def lw_privs_2 : List (MethodName × Nat) := [(⟨"BeatenAfternoon$LawReader", "readWorth", "(LBeatenAfternoon$Tape;)Z"⟩, 2), (⟨"BeatenAfternoon", "settle", "()I"⟩, 14), (⟨"BeatenAfternoon", "enact", "()I"⟩, 14), (⟨"BeatenAfternoon", "hasEstate", "()Z"⟩, 14), (⟨"BeatenAfternoon", "isGun", "(I)Z"⟩, 14), (⟨"BeatenAfternoon$Ground", "firstInReach", "(LBeatenAfternoon$Season;II)I"⟩, 14), (⟨"BeatenAfternoon$Ground", "take", "(II)V"⟩, 14), (⟨"BeatenAfternoon", "refuse", "(I)I"⟩, 14), (⟨"BeatenAfternoon", "driveOnce", "()V"⟩, 14), (⟨"BeatenAfternoon", "isThing", "(I)Z"⟩, 14), (⟨"BeatenAfternoon", "drawAhead", "()V"⟩, 14), (⟨"BeatenAfternoon", "draw", "(I)I"⟩, 14), (⟨"BeatenAfternoon", "logLength", "()I"⟩, 14), (⟨"BeatenAfternoon$Ground", "gunLeft", "(II)I"⟩, 14), (⟨"BeatenAfternoon$Claims", "mostBy", "(III)I"⟩, 3), (⟨"BeatenAfternoon$Claims", "firstBest", "(III)I"⟩, 3)]
theorem lw_r2 : ∀ q ∈ lw_privs_2, lw_okq q := List.forall_mem_cons.mpr ⟨lw_p16, List.forall_mem_cons.mpr ⟨lw_p17, List.forall_mem_cons.mpr ⟨lw_p18, List.forall_mem_cons.mpr ⟨lw_p19, List.forall_mem_cons.mpr ⟨lw_p20, List.forall_mem_cons.mpr ⟨lw_p21, List.forall_mem_cons.mpr ⟨lw_p22, List.forall_mem_cons.mpr ⟨lw_p23, List.forall_mem_cons.mpr ⟨lw_p24, List.forall_mem_cons.mpr ⟨lw_p25, List.forall_mem_cons.mpr ⟨lw_p26, List.forall_mem_cons.mpr ⟨lw_p27, List.forall_mem_cons.mpr ⟨lw_p28, List.forall_mem_cons.mpr ⟨lw_p29, List.forall_mem_cons.mpr ⟨lw_p30, List.forall_mem_cons.mpr ⟨lw_p31, fun _ h => absurd h List.not_mem_nil⟩⟩⟩⟩⟩⟩⟩⟩⟩⟩⟩⟩⟩⟩⟩⟩
theorem lw_p32 : lw_okq (⟨"BeatenAfternoon", "areTwoGuns", "(II)Z"⟩, 14) := ⟨⟨by decide +kernel, by decide +kernel⟩, List.mem_of_getElem? (i := 28) (by decide +kernel), List.mem_of_getElem? (i := 963) (by decide +kernel), List.mem_of_getElem? (i := 964) (by decide +kernel)⟩
theorem lw_p33 : lw_okq (⟨"BeatenAfternoon$Ground", "partsTaking", "(IIII)I"⟩, 14) := ⟨⟨by decide +kernel, by decide +kernel⟩, List.mem_of_getElem? (i := 198) (by decide +kernel), List.mem_of_getElem? (i := 998) (by decide +kernel), List.mem_of_getElem? (i := 999) (by decide +kernel)⟩
theorem lw_p34 : lw_okq (⟨"BeatenAfternoon$Ground", "partsOver", "(IIIII)I"⟩, 14) := ⟨⟨by decide +kernel, by decide +kernel⟩, List.mem_of_getElem? (i := 198) (by decide +kernel), List.mem_of_getElem? (i := 1003) (by decide +kernel), List.mem_of_getElem? (i := 1004) (by decide +kernel)⟩
theorem lw_p35 : lw_okq (⟨"BeatenAfternoon", "lastToRise", "()I"⟩, 14) := ⟨⟨by decide +kernel, by decide +kernel⟩, List.mem_of_getElem? (i := 28) (by decide +kernel), List.mem_of_getElem? (i := 1024) (by decide +kernel), List.mem_of_getElem? (i := 1025) (by decide +kernel)⟩
theorem lw_p36 : lw_okq (⟨"BeatenAfternoon", "finest", "()I"⟩, 14) := ⟨⟨by decide +kernel, by decide +kernel⟩, List.mem_of_getElem? (i := 28) (by decide +kernel), List.mem_of_getElem? (i := 1029) (by decide +kernel), List.mem_of_getElem? (i := 1030) (by decide +kernel)⟩
theorem lw_p37 : lw_okq (⟨"BeatenAfternoon", "busiest", "()I"⟩, 14) := ⟨⟨by decide +kernel, by decide +kernel⟩, List.mem_of_getElem? (i := 28) (by decide +kernel), List.mem_of_getElem? (i := 1033) (by decide +kernel), List.mem_of_getElem? (i := 1034) (by decide +kernel)⟩
theorem lw_p38 : lw_okq (⟨"BeatenAfternoon", "firstGreatest", "([I)I"⟩, 14) := ⟨⟨by decide +kernel, by decide +kernel⟩, List.mem_of_getElem? (i := 28) (by decide +kernel), List.mem_of_getElem? (i := 1041) (by decide +kernel), List.mem_of_getElem? (i := 1042) (by decide +kernel)⟩
theorem lw_p39 : lw_okq (⟨"BeatenAfternoon", "widestGap", "()I"⟩, 14) := ⟨⟨by decide +kernel, by decide +kernel⟩, List.mem_of_getElem? (i := 28) (by decide +kernel), List.mem_of_getElem? (i := 1045) (by decide +kernel), List.mem_of_getElem? (i := 1046) (by decide +kernel)⟩
theorem lw_p40 : lw_okq (⟨"BeatenAfternoon", "valueOut", "()I"⟩, 14) := ⟨⟨by decide +kernel, by decide +kernel⟩, List.mem_of_getElem? (i := 28) (by decide +kernel), List.mem_of_getElem? (i := 1050) (by decide +kernel), List.mem_of_getElem? (i := 1051) (by decide +kernel)⟩
theorem lw_p41 : lw_okq (⟨"java/lang/Throwable", "fillInStackTrace", "(I)Ljava/lang/Throwable;"⟩, 6) := ⟨⟨by decide +kernel, by decide +kernel⟩, List.mem_of_getElem? (i := 1129) (by decide +kernel), List.mem_of_getElem? (i := 1127) (by decide +kernel), List.mem_of_getElem? (i := 1128) (by decide +kernel)⟩
theorem lw_p42 : lw_okq (⟨"BeatenAfternoon", "overOrLost", "(I)I"⟩, 14) := ⟨⟨by decide +kernel, by decide +kernel⟩, List.mem_of_getElem? (i := 28) (by decide +kernel), List.mem_of_getElem? (i := 1158) (by decide +kernel), List.mem_of_getElem? (i := 1159) (by decide +kernel)⟩
theorem lw_p43 : lw_okq (⟨"BeatenAfternoonModel", "readEstate", "()I"⟩, 52) := ⟨⟨by decide +kernel, by decide +kernel⟩, List.mem_of_getElem? (i := 1163) (by decide +kernel), List.mem_of_getElem? (i := 1345) (by decide +kernel), List.mem_of_getElem? (i := 1346) (by decide +kernel)⟩
theorem lw_p44 : lw_okq (⟨"BeatenAfternoonModel", "look", "()I"⟩, 52) := ⟨⟨by decide +kernel, by decide +kernel⟩, List.mem_of_getElem? (i := 1163) (by decide +kernel), List.mem_of_getElem? (i := 1352) (by decide +kernel), List.mem_of_getElem? (i := 1353) (by decide +kernel)⟩
theorem lw_p45 : lw_okq (⟨"BeatenAfternoonModel", "here", "()I"⟩, 52) := ⟨⟨by decide +kernel, by decide +kernel⟩, List.mem_of_getElem? (i := 1163) (by decide +kernel), List.mem_of_getElem? (i := 1356) (by decide +kernel), List.mem_of_getElem? (i := 1357) (by decide +kernel)⟩
theorem lw_p46 : lw_okq (⟨"BeatenAfternoonModel", "items", "(I[III)V"⟩, 52) := ⟨⟨by decide +kernel, by decide +kernel⟩, List.mem_of_getElem? (i := 1163) (by decide +kernel), List.mem_of_getElem? (i := 1360) (by decide +kernel), List.mem_of_getElem? (i := 1361) (by decide +kernel)⟩
theorem lw_p47 : lw_okq (⟨"BeatenAfternoonModel", "number", "(II)I"⟩, 52) := ⟨⟨by decide +kernel, by decide +kernel⟩, List.mem_of_getElem? (i := 1163) (by decide +kernel), List.mem_of_getElem? (i := 1373) (by decide +kernel), List.mem_of_getElem? (i := 1374) (by decide +kernel)⟩
def lw_privs_3 : List (MethodName × Nat) := [(⟨"BeatenAfternoon", "areTwoGuns", "(II)Z"⟩, 14), (⟨"BeatenAfternoon$Ground", "partsTaking", "(IIII)I"⟩, 14), (⟨"BeatenAfternoon$Ground", "partsOver", "(IIIII)I"⟩, 14), (⟨"BeatenAfternoon", "lastToRise", "()I"⟩, 14), (⟨"BeatenAfternoon", "finest", "()I"⟩, 14), (⟨"BeatenAfternoon", "busiest", "()I"⟩, 14), (⟨"BeatenAfternoon", "firstGreatest", "([I)I"⟩, 14), (⟨"BeatenAfternoon", "widestGap", "()I"⟩, 14), (⟨"BeatenAfternoon", "valueOut", "()I"⟩, 14), (⟨"java/lang/Throwable", "fillInStackTrace", "(I)Ljava/lang/Throwable;"⟩, 6), (⟨"BeatenAfternoon", "overOrLost", "(I)I"⟩, 14), (⟨"BeatenAfternoonModel", "readEstate", "()I"⟩, 52), (⟨"BeatenAfternoonModel", "look", "()I"⟩, 52), (⟨"BeatenAfternoonModel", "here", "()I"⟩, 52), (⟨"BeatenAfternoonModel", "items", "(I[III)V"⟩, 52), (⟨"BeatenAfternoonModel", "number", "(II)I"⟩, 52)]
theorem lw_r3 : ∀ q ∈ lw_privs_3, lw_okq q := List.forall_mem_cons.mpr ⟨lw_p32, List.forall_mem_cons.mpr ⟨lw_p33, List.forall_mem_cons.mpr ⟨lw_p34, List.forall_mem_cons.mpr ⟨lw_p35, List.forall_mem_cons.mpr ⟨lw_p36, List.forall_mem_cons.mpr ⟨lw_p37, List.forall_mem_cons.mpr ⟨lw_p38, List.forall_mem_cons.mpr ⟨lw_p39, List.forall_mem_cons.mpr ⟨lw_p40, List.forall_mem_cons.mpr ⟨lw_p41, List.forall_mem_cons.mpr ⟨lw_p42, List.forall_mem_cons.mpr ⟨lw_p43, List.forall_mem_cons.mpr ⟨lw_p44, List.forall_mem_cons.mpr ⟨lw_p45, List.forall_mem_cons.mpr ⟨lw_p46, List.forall_mem_cons.mpr ⟨lw_p47, fun _ h => absurd h List.not_mem_nil⟩⟩⟩⟩⟩⟩⟩⟩⟩⟩⟩⟩⟩⟩⟩⟩
theorem lw_p48 : lw_okq (⟨"BeatenAfternoonModel", "bad", "()V"⟩, 52) := ⟨⟨by decide +kernel, by decide +kernel⟩, List.mem_of_getElem? (i := 1163) (by decide +kernel), List.mem_of_getElem? (i := 1380) (by decide +kernel), List.mem_of_getElem? (i := 1381) (by decide +kernel)⟩
theorem lw_p49 : lw_okq (⟨"BeatenAfternoonModel", "readLaw", "(I)I"⟩, 52) := ⟨⟨by decide +kernel, by decide +kernel⟩, List.mem_of_getElem? (i := 1163) (by decide +kernel), List.mem_of_getElem? (i := 1387) (by decide +kernel), List.mem_of_getElem? (i := 1388) (by decide +kernel)⟩
theorem lw_p50 : lw_okq (⟨"BeatenAfternoonModel", "open", "(I)V"⟩, 52) := ⟨⟨by decide +kernel, by decide +kernel⟩, List.mem_of_getElem? (i := 1163) (by decide +kernel), List.mem_of_getElem? (i := 1391) (by decide +kernel), List.mem_of_getElem? (i := 1392) (by decide +kernel)⟩
theorem lw_p51 : lw_okq (⟨"BeatenAfternoonModel", "clause", "()V"⟩, 52) := ⟨⟨by decide +kernel, by decide +kernel⟩, List.mem_of_getElem? (i := 1163) (by decide +kernel), List.mem_of_getElem? (i := 1395) (by decide +kernel), List.mem_of_getElem? (i := 1396) (by decide +kernel)⟩
theorem lw_p52 : lw_okq (⟨"BeatenAfternoonModel", "condition", "()V"⟩, 52) := ⟨⟨by decide +kernel, by decide +kernel⟩, List.mem_of_getElem? (i := 1163) (by decide +kernel), List.mem_of_getElem? (i := 1399) (by decide +kernel), List.mem_of_getElem? (i := 1400) (by decide +kernel)⟩
theorem lw_p53 : lw_okq (⟨"BeatenAfternoonModel", "unit", "()V"⟩, 52) := ⟨⟨by decide +kernel, by decide +kernel⟩, List.mem_of_getElem? (i := 1163) (by decide +kernel), List.mem_of_getElem? (i := 1403) (by decide +kernel), List.mem_of_getElem? (i := 1404) (by decide +kernel)⟩
theorem lw_p54 : lw_okq (⟨"BeatenAfternoonModel", "opens", "()V"⟩, 52) := ⟨⟨by decide +kernel, by decide +kernel⟩, List.mem_of_getElem? (i := 1163) (by decide +kernel), List.mem_of_getElem? (i := 1407) (by decide +kernel), List.mem_of_getElem? (i := 1408) (by decide +kernel)⟩
theorem lw_p55 : lw_okq (⟨"BeatenAfternoonModel", "put", "(II)V"⟩, 52) := ⟨⟨by decide +kernel, by decide +kernel⟩, List.mem_of_getElem? (i := 1163) (by decide +kernel), List.mem_of_getElem? (i := 1411) (by decide +kernel), List.mem_of_getElem? (i := 1412) (by decide +kernel)⟩
theorem lw_p56 : lw_okq (⟨"BeatenAfternoonModel", "closes", "(I)V"⟩, 52) := ⟨⟨by decide +kernel, by decide +kernel⟩, List.mem_of_getElem? (i := 1163) (by decide +kernel), List.mem_of_getElem? (i := 1415) (by decide +kernel), List.mem_of_getElem? (i := 1416) (by decide +kernel)⟩
theorem lw_p57 : lw_okq (⟨"BeatenAfternoonModel", "sum", "()V"⟩, 52) := ⟨⟨by decide +kernel, by decide +kernel⟩, List.mem_of_getElem? (i := 1163) (by decide +kernel), List.mem_of_getElem? (i := 1419) (by decide +kernel), List.mem_of_getElem? (i := 1420) (by decide +kernel)⟩
theorem lw_p58 : lw_okq (⟨"BeatenAfternoonModel", "term", "()V"⟩, 52) := ⟨⟨by decide +kernel, by decide +kernel⟩, List.mem_of_getElem? (i := 1163) (by decide +kernel), List.mem_of_getElem? (i := 1423) (by decide +kernel), List.mem_of_getElem? (i := 1424) (by decide +kernel)⟩
theorem lw_p59 : lw_okq (⟨"BeatenAfternoonModel", "atom", "()V"⟩, 52) := ⟨⟨by decide +kernel, by decide +kernel⟩, List.mem_of_getElem? (i := 1163) (by decide +kernel), List.mem_of_getElem? (i := 1427) (by decide +kernel), List.mem_of_getElem? (i := 1428) (by decide +kernel)⟩
theorem lw_p60 : lw_okq (⟨"BeatenAfternoonModel", "plainNumber", "()I"⟩, 52) := ⟨⟨by decide +kernel, by decide +kernel⟩, List.mem_of_getElem? (i := 1163) (by decide +kernel), List.mem_of_getElem? (i := 1431) (by decide +kernel), List.mem_of_getElem? (i := 1432) (by decide +kernel)⟩
theorem lw_p61 : lw_okq (⟨"BeatenAfternoonModel", "compare", "()V"⟩, 52) := ⟨⟨by decide +kernel, by decide +kernel⟩, List.mem_of_getElem? (i := 1163) (by decide +kernel), List.mem_of_getElem? (i := 1438) (by decide +kernel), List.mem_of_getElem? (i := 1439) (by decide +kernel)⟩
theorem lw_p62 : lw_okq (⟨"BeatenAfternoonModel", "goOnAnd", "()V"⟩, 52) := ⟨⟨by decide +kernel, by decide +kernel⟩, List.mem_of_getElem? (i := 1163) (by decide +kernel), List.mem_of_getElem? (i := 1445) (by decide +kernel), List.mem_of_getElem? (i := 1446) (by decide +kernel)⟩
theorem lw_p63 : lw_okq (⟨"BeatenAfternoonModel", "goOnOr", "()V"⟩, 52) := ⟨⟨by decide +kernel, by decide +kernel⟩, List.mem_of_getElem? (i := 1163) (by decide +kernel), List.mem_of_getElem? (i := 1449) (by decide +kernel), List.mem_of_getElem? (i := 1450) (by decide +kernel)⟩
def lw_privs_4 : List (MethodName × Nat) := [(⟨"BeatenAfternoonModel", "bad", "()V"⟩, 52), (⟨"BeatenAfternoonModel", "readLaw", "(I)I"⟩, 52), (⟨"BeatenAfternoonModel", "open", "(I)V"⟩, 52), (⟨"BeatenAfternoonModel", "clause", "()V"⟩, 52), (⟨"BeatenAfternoonModel", "condition", "()V"⟩, 52), (⟨"BeatenAfternoonModel", "unit", "()V"⟩, 52), (⟨"BeatenAfternoonModel", "opens", "()V"⟩, 52), (⟨"BeatenAfternoonModel", "put", "(II)V"⟩, 52), (⟨"BeatenAfternoonModel", "closes", "(I)V"⟩, 52), (⟨"BeatenAfternoonModel", "sum", "()V"⟩, 52), (⟨"BeatenAfternoonModel", "term", "()V"⟩, 52), (⟨"BeatenAfternoonModel", "atom", "()V"⟩, 52), (⟨"BeatenAfternoonModel", "plainNumber", "()I"⟩, 52), (⟨"BeatenAfternoonModel", "compare", "()V"⟩, 52), (⟨"BeatenAfternoonModel", "goOnAnd", "()V"⟩, 52), (⟨"BeatenAfternoonModel", "goOnOr", "()V"⟩, 52)]
theorem lw_r4 : ∀ q ∈ lw_privs_4, lw_okq q := List.forall_mem_cons.mpr ⟨lw_p48, List.forall_mem_cons.mpr ⟨lw_p49, List.forall_mem_cons.mpr ⟨lw_p50, List.forall_mem_cons.mpr ⟨lw_p51, List.forall_mem_cons.mpr ⟨lw_p52, List.forall_mem_cons.mpr ⟨lw_p53, List.forall_mem_cons.mpr ⟨lw_p54, List.forall_mem_cons.mpr ⟨lw_p55, List.forall_mem_cons.mpr ⟨lw_p56, List.forall_mem_cons.mpr ⟨lw_p57, List.forall_mem_cons.mpr ⟨lw_p58, List.forall_mem_cons.mpr ⟨lw_p59, List.forall_mem_cons.mpr ⟨lw_p60, List.forall_mem_cons.mpr ⟨lw_p61, List.forall_mem_cons.mpr ⟨lw_p62, List.forall_mem_cons.mpr ⟨lw_p63, fun _ h => absurd h List.not_mem_nil⟩⟩⟩⟩⟩⟩⟩⟩⟩⟩⟩⟩⟩⟩⟩⟩
theorem lw_p64 : lw_okq (⟨"BeatenAfternoonModel", "atEnd", "()I"⟩, 52) := ⟨⟨by decide +kernel, by decide +kernel⟩, List.mem_of_getElem? (i := 1163) (by decide +kernel), List.mem_of_getElem? (i := 1453) (by decide +kernel), List.mem_of_getElem? (i := 1454) (by decide +kernel)⟩
theorem lw_p65 : lw_okq (⟨"BeatenAfternoonModel", "takeEstate", "()I"⟩, 52) := ⟨⟨by decide +kernel, by decide +kernel⟩, List.mem_of_getElem? (i := 1163) (by decide +kernel), List.mem_of_getElem? (i := 1461) (by decide +kernel), List.mem_of_getElem? (i := 1462) (by decide +kernel)⟩
theorem lw_p66 : lw_okq (⟨"BeatenAfternoonModel", "isThing", "(I)Z"⟩, 52) := ⟨⟨by decide +kernel, by decide +kernel⟩, List.mem_of_getElem? (i := 1163) (by decide +kernel), List.mem_of_getElem? (i := 1473) (by decide +kernel), List.mem_of_getElem? (i := 1474) (by decide +kernel)⟩
theorem lw_p67 : lw_okq (⟨"BeatenAfternoonModel", "overNow", "(I)I"⟩, 52) := ⟨⟨by decide +kernel, by decide +kernel⟩, List.mem_of_getElem? (i := 1163) (by decide +kernel), List.mem_of_getElem? (i := 1477) (by decide +kernel), List.mem_of_getElem? (i := 1478) (by decide +kernel)⟩
theorem lw_p68 : lw_okq (⟨"BeatenAfternoonModel", "of", "(II)I"⟩, 52) := ⟨⟨by decide +kernel, by decide +kernel⟩, List.mem_of_getElem? (i := 1163) (by decide +kernel), List.mem_of_getElem? (i := 1481) (by decide +kernel), List.mem_of_getElem? (i := 1482) (by decide +kernel)⟩
theorem lw_p69 : lw_okq (⟨"BeatenAfternoonModel", "flies", "(III)I"⟩, 52) := ⟨⟨by decide +kernel, by decide +kernel⟩, List.mem_of_getElem? (i := 1163) (by decide +kernel), List.mem_of_getElem? (i := 1485) (by decide +kernel), List.mem_of_getElem? (i := 1486) (by decide +kernel)⟩
theorem lw_p70 : lw_okq (⟨"BeatenAfternoonModel", "isGun", "(I)Z"⟩, 52) := ⟨⟨by decide +kernel, by decide +kernel⟩, List.mem_of_getElem? (i := 1163) (by decide +kernel), List.mem_of_getElem? (i := 1499) (by decide +kernel), List.mem_of_getElem? (i := 1500) (by decide +kernel)⟩
theorem lw_p71 : lw_okq (⟨"BeatenAfternoonModel", "layDrive", "()V"⟩, 52) := ⟨⟨by decide +kernel, by decide +kernel⟩, List.mem_of_getElem? (i := 1163) (by decide +kernel), List.mem_of_getElem? (i := 1503) (by decide +kernel), List.mem_of_getElem? (i := 1504) (by decide +kernel)⟩
theorem lw_p72 : lw_okq (⟨"BeatenAfternoonModel", "risesAt", "(II)Z"⟩, 52) := ⟨⟨by decide +kernel, by decide +kernel⟩, List.mem_of_getElem? (i := 1163) (by decide +kernel), List.mem_of_getElem? (i := 1507) (by decide +kernel), List.mem_of_getElem? (i := 1508) (by decide +kernel)⟩
theorem lw_p73 : lw_okq (⟨"BeatenAfternoonModel", "isOut", "(I)Z"⟩, 52) := ⟨⟨by decide +kernel, by decide +kernel⟩, List.mem_of_getElem? (i := 1163) (by decide +kernel), List.mem_of_getElem? (i := 1511) (by decide +kernel), List.mem_of_getElem? (i := 1512) (by decide +kernel)⟩
theorem lw_p74 : lw_okq (⟨"BeatenAfternoonModel", "takes", "(II)I"⟩, 52) := ⟨⟨by decide +kernel, by decide +kernel⟩, List.mem_of_getElem? (i := 1163) (by decide +kernel), List.mem_of_getElem? (i := 1515) (by decide +kernel), List.mem_of_getElem? (i := 1516) (by decide +kernel)⟩
theorem lw_p75 : lw_okq (⟨"BeatenAfternoonModel", "reachOf", "(IIII)I"⟩, 52) := ⟨⟨by decide +kernel, by decide +kernel⟩, List.mem_of_getElem? (i := 1163) (by decide +kernel), List.mem_of_getElem? (i := 1519) (by decide +kernel), List.mem_of_getElem? (i := 1520) (by decide +kernel)⟩
theorem lw_p76 : lw_okq (⟨"BeatenAfternoonModel", "worthOf", "(I)I"⟩, 52) := ⟨⟨by decide +kernel, by decide +kernel⟩, List.mem_of_getElem? (i := 1163) (by decide +kernel), List.mem_of_getElem? (i := 1524) (by decide +kernel), List.mem_of_getElem? (i := 1525) (by decide +kernel)⟩
theorem lw_p77 : lw_okq (⟨"BeatenAfternoonModel", "workOut", "(III)I"⟩, 52) := ⟨⟨by decide +kernel, by decide +kernel⟩, List.mem_of_getElem? (i := 1163) (by decide +kernel), List.mem_of_getElem? (i := 1528) (by decide +kernel), List.mem_of_getElem? (i := 1529) (by decide +kernel)⟩
theorem lw_p78 : lw_okq (⟨"BeatenAfternoonModel", "areDrives", "(I)Z"⟩, 52) := ⟨⟨by decide +kernel, by decide +kernel⟩, List.mem_of_getElem? (i := 1163) (by decide +kernel), List.mem_of_getElem? (i := 1556) (by decide +kernel), List.mem_of_getElem? (i := 1557) (by decide +kernel)⟩
theorem lw_p79 : lw_okq (⟨"BeatenAfternoonModel", "isRefused", "(I)Z"⟩, 52) := ⟨⟨by decide +kernel, by decide +kernel⟩, List.mem_of_getElem? (i := 1163) (by decide +kernel), List.mem_of_getElem? (i := 1560) (by decide +kernel), List.mem_of_getElem? (i := 1561) (by decide +kernel)⟩
def lw_privs_5 : List (MethodName × Nat) := [(⟨"BeatenAfternoonModel", "atEnd", "()I"⟩, 52), (⟨"BeatenAfternoonModel", "takeEstate", "()I"⟩, 52), (⟨"BeatenAfternoonModel", "isThing", "(I)Z"⟩, 52), (⟨"BeatenAfternoonModel", "overNow", "(I)I"⟩, 52), (⟨"BeatenAfternoonModel", "of", "(II)I"⟩, 52), (⟨"BeatenAfternoonModel", "flies", "(III)I"⟩, 52), (⟨"BeatenAfternoonModel", "isGun", "(I)Z"⟩, 52), (⟨"BeatenAfternoonModel", "layDrive", "()V"⟩, 52), (⟨"BeatenAfternoonModel", "risesAt", "(II)Z"⟩, 52), (⟨"BeatenAfternoonModel", "isOut", "(I)Z"⟩, 52), (⟨"BeatenAfternoonModel", "takes", "(II)I"⟩, 52), (⟨"BeatenAfternoonModel", "reachOf", "(IIII)I"⟩, 52), (⟨"BeatenAfternoonModel", "worthOf", "(I)I"⟩, 52), (⟨"BeatenAfternoonModel", "workOut", "(III)I"⟩, 52), (⟨"BeatenAfternoonModel", "areDrives", "(I)Z"⟩, 52), (⟨"BeatenAfternoonModel", "isRefused", "(I)Z"⟩, 52)]
theorem lw_r5 : ∀ q ∈ lw_privs_5, lw_okq q := List.forall_mem_cons.mpr ⟨lw_p64, List.forall_mem_cons.mpr ⟨lw_p65, List.forall_mem_cons.mpr ⟨lw_p66, List.forall_mem_cons.mpr ⟨lw_p67, List.forall_mem_cons.mpr ⟨lw_p68, List.forall_mem_cons.mpr ⟨lw_p69, List.forall_mem_cons.mpr ⟨lw_p70, List.forall_mem_cons.mpr ⟨lw_p71, List.forall_mem_cons.mpr ⟨lw_p72, List.forall_mem_cons.mpr ⟨lw_p73, List.forall_mem_cons.mpr ⟨lw_p74, List.forall_mem_cons.mpr ⟨lw_p75, List.forall_mem_cons.mpr ⟨lw_p76, List.forall_mem_cons.mpr ⟨lw_p77, List.forall_mem_cons.mpr ⟨lw_p78, List.forall_mem_cons.mpr ⟨lw_p79, fun _ h => absurd h List.not_mem_nil⟩⟩⟩⟩⟩⟩⟩⟩⟩⟩⟩⟩⟩⟩⟩⟩
theorem lw_p80 : lw_okq (⟨"BeatenAfternoonModel", "keep", "()V"⟩, 52) := ⟨⟨by decide +kernel, by decide +kernel⟩, List.mem_of_getElem? (i := 1163) (by decide +kernel), List.mem_of_getElem? (i := 1564) (by decide +kernel), List.mem_of_getElem? (i := 1565) (by decide +kernel)⟩
theorem lw_p81 : lw_okq (⟨"BeatenAfternoonModel", "passDrive", "()V"⟩, 52) := ⟨⟨by decide +kernel, by decide +kernel⟩, List.mem_of_getElem? (i := 1163) (by decide +kernel), List.mem_of_getElem? (i := 1568) (by decide +kernel), List.mem_of_getElem? (i := 1569) (by decide +kernel)⟩
theorem lw_p82 : lw_okq (⟨"BeatenAfternoonModel", "drawDrive", "()V"⟩, 52) := ⟨⟨by decide +kernel, by decide +kernel⟩, List.mem_of_getElem? (i := 1163) (by decide +kernel), List.mem_of_getElem? (i := 1603) (by decide +kernel), List.mem_of_getElem? (i := 1604) (by decide +kernel)⟩
theorem lw_p83 : lw_okq (⟨"BeatenAfternoonModel", "draw", "(I)I"⟩, 52) := ⟨⟨by decide +kernel, by decide +kernel⟩, List.mem_of_getElem? (i := 1163) (by decide +kernel), List.mem_of_getElem? (i := 1607) (by decide +kernel), List.mem_of_getElem? (i := 1608) (by decide +kernel)⟩
theorem lw_p84 : lw_okq (⟨"BeatenAfternoonModel", "tryRow", "(IIZ)V"⟩, 52) := ⟨⟨by decide +kernel, by decide +kernel⟩, List.mem_of_getElem? (i := 1163) (by decide +kernel), List.mem_of_getElem? (i := 1633) (by decide +kernel), List.mem_of_getElem? (i := 1634) (by decide +kernel)⟩
theorem lw_p85 : lw_okq (⟨"BeatenAfternoonModel", "layPegs", "()V"⟩, 52) := ⟨⟨by decide +kernel, by decide +kernel⟩, List.mem_of_getElem? (i := 1163) (by decide +kernel), List.mem_of_getElem? (i := 1645) (by decide +kernel), List.mem_of_getElem? (i := 1646) (by decide +kernel)⟩
theorem lw_p86 : lw_okq (⟨"BeatenAfternoonModel", "tryDeals", "(III)V"⟩, 52) := ⟨⟨by decide +kernel, by decide +kernel⟩, List.mem_of_getElem? (i := 1163) (by decide +kernel), List.mem_of_getElem? (i := 1649) (by decide +kernel), List.mem_of_getElem? (i := 1650) (by decide +kernel)⟩
theorem lw_p87 : lw_okq (⟨"BeatenAfternoonModel", "unlike", "()I"⟩, 52) := ⟨⟨by decide +kernel, by decide +kernel⟩, List.mem_of_getElem? (i := 1163) (by decide +kernel), List.mem_of_getElem? (i := 1653) (by decide +kernel), List.mem_of_getElem? (i := 1654) (by decide +kernel)⟩
theorem lw_p88 : lw_okq (⟨"BeatenAfternoonModel", "isLay", "(II)Z"⟩, 52) := ⟨⟨by decide +kernel, by decide +kernel⟩, List.mem_of_getElem? (i := 1163) (by decide +kernel), List.mem_of_getElem? (i := 1665) (by decide +kernel), List.mem_of_getElem? (i := 1666) (by decide +kernel)⟩
theorem lw_p89 : lw_okq (⟨"BeatenAfternoonModel", "claimable", "()I"⟩, 52) := ⟨⟨by decide +kernel, by decide +kernel⟩, List.mem_of_getElem? (i := 1163) (by decide +kernel), List.mem_of_getElem? (i := 1678) (by decide +kernel), List.mem_of_getElem? (i := 1679) (by decide +kernel)⟩
theorem lw_p90 : lw_okq (⟨"BeatenAfternoonModel", "tryClaims", "(IIII)V"⟩, 52) := ⟨⟨by decide +kernel, by decide +kernel⟩, List.mem_of_getElem? (i := 1163) (by decide +kernel), List.mem_of_getElem? (i := 1682) (by decide +kernel), List.mem_of_getElem? (i := 1683) (by decide +kernel)⟩
theorem lw_p91 : lw_okq (⟨"BeatenAfternoonModel", "areTwo", "(II)Z"⟩, 52) := ⟨⟨by decide +kernel, by decide +kernel⟩, List.mem_of_getElem? (i := 1163) (by decide +kernel), List.mem_of_getElem? (i := 1690) (by decide +kernel), List.mem_of_getElem? (i := 1691) (by decide +kernel)⟩
theorem lw_p92 : lw_okq (⟨"BeatenAfternoonModel", "gameOf", "(IIII)I"⟩, 52) := ⟨⟨by decide +kernel, by decide +kernel⟩, List.mem_of_getElem? (i := 1163) (by decide +kernel), List.mem_of_getElem? (i := 1695) (by decide +kernel), List.mem_of_getElem? (i := 1696) (by decide +kernel)⟩
theorem lw_p93 : lw_okq (⟨"BeatenAfternoonModel", "isRest", "(IIII)Z"⟩, 52) := ⟨⟨by decide +kernel, by decide +kernel⟩, List.mem_of_getElem? (i := 1163) (by decide +kernel), List.mem_of_getElem? (i := 1703) (by decide +kernel), List.mem_of_getElem? (i := 1704) (by decide +kernel)⟩
theorem lw_p94 : lw_okq (⟨"BeatenAfternoonModel", "oddsFrom", "(IIII)I"⟩, 52) := ⟨⟨by decide +kernel, by decide +kernel⟩, List.mem_of_getElem? (i := 1163) (by decide +kernel), List.mem_of_getElem? (i := 1712) (by decide +kernel), List.mem_of_getElem? (i := 1713) (by decide +kernel)⟩
theorem lw_p95 : lw_okq (⟨"BeatenAfternoonModel", "bagsOfAll", "()I"⟩, 52) := ⟨⟨by decide +kernel, by decide +kernel⟩, List.mem_of_getElem? (i := 1163) (by decide +kernel), List.mem_of_getElem? (i := 1721) (by decide +kernel), List.mem_of_getElem? (i := 1722) (by decide +kernel)⟩
def lw_privs_6 : List (MethodName × Nat) := [(⟨"BeatenAfternoonModel", "keep", "()V"⟩, 52), (⟨"BeatenAfternoonModel", "passDrive", "()V"⟩, 52), (⟨"BeatenAfternoonModel", "drawDrive", "()V"⟩, 52), (⟨"BeatenAfternoonModel", "draw", "(I)I"⟩, 52), (⟨"BeatenAfternoonModel", "tryRow", "(IIZ)V"⟩, 52), (⟨"BeatenAfternoonModel", "layPegs", "()V"⟩, 52), (⟨"BeatenAfternoonModel", "tryDeals", "(III)V"⟩, 52), (⟨"BeatenAfternoonModel", "unlike", "()I"⟩, 52), (⟨"BeatenAfternoonModel", "isLay", "(II)Z"⟩, 52), (⟨"BeatenAfternoonModel", "claimable", "()I"⟩, 52), (⟨"BeatenAfternoonModel", "tryClaims", "(IIII)V"⟩, 52), (⟨"BeatenAfternoonModel", "areTwo", "(II)Z"⟩, 52), (⟨"BeatenAfternoonModel", "gameOf", "(IIII)I"⟩, 52), (⟨"BeatenAfternoonModel", "isRest", "(IIII)Z"⟩, 52), (⟨"BeatenAfternoonModel", "oddsFrom", "(IIII)I"⟩, 52), (⟨"BeatenAfternoonModel", "bagsOfAll", "()I"⟩, 52)]
theorem lw_r6 : ∀ q ∈ lw_privs_6, lw_okq q := List.forall_mem_cons.mpr ⟨lw_p80, List.forall_mem_cons.mpr ⟨lw_p81, List.forall_mem_cons.mpr ⟨lw_p82, List.forall_mem_cons.mpr ⟨lw_p83, List.forall_mem_cons.mpr ⟨lw_p84, List.forall_mem_cons.mpr ⟨lw_p85, List.forall_mem_cons.mpr ⟨lw_p86, List.forall_mem_cons.mpr ⟨lw_p87, List.forall_mem_cons.mpr ⟨lw_p88, List.forall_mem_cons.mpr ⟨lw_p89, List.forall_mem_cons.mpr ⟨lw_p90, List.forall_mem_cons.mpr ⟨lw_p91, List.forall_mem_cons.mpr ⟨lw_p92, List.forall_mem_cons.mpr ⟨lw_p93, List.forall_mem_cons.mpr ⟨lw_p94, List.forall_mem_cons.mpr ⟨lw_p95, fun _ h => absurd h List.not_mem_nil⟩⟩⟩⟩⟩⟩⟩⟩⟩⟩⟩⟩⟩⟩⟩⟩
theorem lw_p96 : lw_okq (⟨"BeatenAfternoonModel", "finest", "()I"⟩, 52) := ⟨⟨by decide +kernel, by decide +kernel⟩, List.mem_of_getElem? (i := 1163) (by decide +kernel), List.mem_of_getElem? (i := 1733) (by decide +kernel), List.mem_of_getElem? (i := 1734) (by decide +kernel)⟩
theorem lw_p97 : lw_okq (⟨"BeatenAfternoonModel", "busiest", "()I"⟩, 52) := ⟨⟨by decide +kernel, by decide +kernel⟩, List.mem_of_getElem? (i := 1163) (by decide +kernel), List.mem_of_getElem? (i := 1737) (by decide +kernel), List.mem_of_getElem? (i := 1738) (by decide +kernel)⟩
theorem lw_p98 : lw_okq (⟨"BeatenAfternoonModel", "topGun", "(I)I"⟩, 52) := ⟨⟨by decide +kernel, by decide +kernel⟩, List.mem_of_getElem? (i := 1163) (by decide +kernel), List.mem_of_getElem? (i := 1741) (by decide +kernel), List.mem_of_getElem? (i := 1742) (by decide +kernel)⟩
theorem lw_p99 : lw_okq (⟨"BeatenAfternoonModel", "gap", "()I"⟩, 52) := ⟨⟨by decide +kernel, by decide +kernel⟩, List.mem_of_getElem? (i := 1163) (by decide +kernel), List.mem_of_getElem? (i := 1745) (by decide +kernel), List.mem_of_getElem? (i := 1746) (by decide +kernel)⟩
theorem lw_p100 : lw_okq (⟨"BeatenAfternoonModel", "whole", "()I"⟩, 52) := ⟨⟨by decide +kernel, by decide +kernel⟩, List.mem_of_getElem? (i := 1163) (by decide +kernel), List.mem_of_getElem? (i := 1749) (by decide +kernel), List.mem_of_getElem? (i := 1750) (by decide +kernel)⟩
def lw_privs_7 : List (MethodName × Nat) := [(⟨"BeatenAfternoonModel", "finest", "()I"⟩, 52), (⟨"BeatenAfternoonModel", "busiest", "()I"⟩, 52), (⟨"BeatenAfternoonModel", "topGun", "(I)I"⟩, 52), (⟨"BeatenAfternoonModel", "gap", "()I"⟩, 52), (⟨"BeatenAfternoonModel", "whole", "()I"⟩, 52)]
theorem lw_r7 : ∀ q ∈ lw_privs_7, lw_okq q := List.forall_mem_cons.mpr ⟨lw_p96, List.forall_mem_cons.mpr ⟨lw_p97, List.forall_mem_cons.mpr ⟨lw_p98, List.forall_mem_cons.mpr ⟨lw_p99, List.forall_mem_cons.mpr ⟨lw_p100, fun _ h => absurd h List.not_mem_nil⟩⟩⟩⟩⟩
def lw_privs : List (MethodName × Nat) := lw_privs_1 ++ (lw_privs_2 ++ (lw_privs_3 ++ (lw_privs_4 ++ (lw_privs_5 ++ (lw_privs_6 ++ (lw_privs_7))))))
def lw_tbl : List Cond := k2_sels lw_privs ++ tables_1
theorem lw_privs_ok : ∀ q ∈ lw_privs, lw_okq q := by
  show ∀ q ∈ lw_privs_1 ++ (lw_privs_2 ++ (lw_privs_3 ++ (lw_privs_4 ++ (lw_privs_5 ++ (lw_privs_6 ++ (lw_privs_7)))))), lw_okq q
  exact List.forall_mem_append.mpr ⟨lw_r1, List.forall_mem_append.mpr ⟨lw_r2, List.forall_mem_append.mpr ⟨lw_r3, List.forall_mem_append.mpr ⟨lw_r4, List.forall_mem_append.mpr ⟨lw_r5, List.forall_mem_append.mpr ⟨lw_r6, lw_r7⟩⟩⟩⟩⟩⟩
def RX0 : String := "BeatenAfternoon$Claims"
def TX0 : u_T := fun k => match k with
  | 0 => ("BeatenAfternoon$Claims", "many", "I", false)
  | 1 => ("BeatenAfternoon$Claims", "reaches", "[I", true)
  | _ => ("BeatenAfternoon$Claims", "mostFrom", "[I", true)
def tyX0 : Nat → FieldType := fun k => match k with
  | 0 => .int
  | 1 => .array .int
  | _ => .array .int
abbrev wsX00 : List Cond := u_ws RX0 TX0 3
theorem nmX0 : ∀ a, a < 3 → ∀ b, b < 3 → a ≠ b → (TX0 a).2.1 ≠ (TX0 b).2.1 := by decide +kernel
theorem tyX0_ok : ∀ k, k < 3 → parseFieldDescriptor (TX0 k).2.2.1 = some (tyX0 k) := by decide +kernel
abbrev cX0_init : ByteArray := prog_2_method_1_code
def yX0_init : MethodName := ⟨RX0, "<init>", "()V"⟩
abbrev cX0_gather : ByteArray := prog_2_method_2_code
def yX0_gather : MethodName := ⟨RX0, "gather", "(LBeatenAfternoon$Ground;)V"⟩
abbrev cX0_weigh : ByteArray := prog_2_method_3_code
def yX0_weigh : MethodName := ⟨RX0, "weigh", "(I)V"⟩
abbrev cX0_mostBy : ByteArray := prog_2_method_4_code
def yX0_mostBy : MethodName := ⟨RX0, "mostBy", "(III)I"⟩
abbrev cX0_total : ByteArray := prog_2_method_5_code
def yX0_total : MethodName := ⟨RX0, "total", "()I"⟩
abbrev cX0_row : ByteArray := prog_2_method_6_code
def yX0_row : MethodName := ⟨RX0, "row", "(I)I"⟩
abbrev cX0_firstBest : ByteArray := prog_2_method_7_code
def yX0_firstBest : MethodName := ⟨RX0, "firstBest", "(III)I"⟩
def RX1 : String := "BeatenAfternoon$Duel"
def TX1 : u_T := fun k => match k with
  | 0 => ("BeatenAfternoon$Duel", "ones", "[I", true)
  | _ => ("BeatenAfternoon$Duel", "others", "[I", true)
def tyX1 : Nat → FieldType := fun k => match k with
  | 0 => .array .int
  | _ => .array .int
abbrev wsX10 : List Cond := u_ws RX1 TX1 2
theorem nmX1 : ∀ a, a < 2 → ∀ b, b < 2 → a ≠ b → (TX1 a).2.1 ≠ (TX1 b).2.1 := by decide +kernel
theorem tyX1_ok : ∀ k, k < 2 → parseFieldDescriptor (TX1 k).2.2.1 = some (tyX1 k) := by decide +kernel
abbrev cX1_init : ByteArray := prog_3_method_1_code
def yX1_init : MethodName := ⟨RX1, "<init>", "()V"⟩
abbrev cX1_isStep : ByteArray := prog_3_method_2_code
def yX1_isStep : MethodName := ⟨RX1, "isStep", "(I)Z"⟩
abbrev cX1_play : ByteArray := prog_3_method_3_code
def yX1_play : MethodName := ⟨RX1, "play", "(LBeatenAfternoon$Ground;II)V"⟩
abbrev cX1_isRest : ByteArray := prog_3_method_4_code
def yX1_isRest : MethodName := ⟨RX1, "isRest", "(II)Z"⟩
def RX2 : String := "BeatenAfternoon$Estate"
def TX2 : u_T := fun k => match k with
  | 0 => ("BeatenAfternoon$Estate", "things", "I", false)
  | 1 => ("BeatenAfternoon$Estate", "guns", "I", false)
  | 2 => ("BeatenAfternoon$Estate", "columns", "[I", true)
  | 3 => ("BeatenAfternoon$Estate", "rows", "[I", true)
  | 4 => ("BeatenAfternoon$Estate", "ways", "[I", true)
  | 5 => ("BeatenAfternoon$Estate", "values", "[I", true)
  | _ => ("BeatenAfternoon$Estate", "kinds", "[I", true)
def tyX2 : Nat → FieldType := fun k => match k with
  | 0 => .int
  | 1 => .int
  | 2 => .array .int
  | 3 => .array .int
  | 4 => .array .int
  | 5 => .array .int
  | _ => .array .int
abbrev wsX20 : List Cond := u_ws RX2 TX2 7
theorem nmX2 : ∀ a, a < 7 → ∀ b, b < 7 → a ≠ b → (TX2 a).2.1 ≠ (TX2 b).2.1 := by decide +kernel
theorem tyX2_ok : ∀ k, k < 7 → parseFieldDescriptor (TX2 k).2.2.1 = some (tyX2 k) := by decide +kernel
abbrev cX2_init : ByteArray := prog_4_method_1_code
def yX2_init : MethodName := ⟨RX2, "<init>", "()V"⟩
abbrev cX2_copyFrom : ByteArray := prog_4_method_2_code
def yX2_copyFrom : MethodName := ⟨RX2, "copyFrom", "(LBeatenAfternoon$Estate;)V"⟩
abbrev cX2_over : ByteArray := prog_4_method_3_code
def yX2_over : MethodName := ⟨RX2, "over", "(II)I"⟩
abbrev cX2_overFrom : ByteArray := prog_4_method_4_code
def yX2_overFrom : MethodName := ⟨RX2, "overFrom", "(III)I"⟩
def RX3 : String := "BeatenAfternoon$EstateReader"
def TX3 : u_T := fun k => match k with
  | 0 => ("BeatenAfternoon$EstateReader", "estate", "LBeatenAfternoon$Estate;", true)
  | 1 => ("BeatenAfternoon$EstateReader", "start", "LBeatenAfternoon$Season;", true)
  | 2 => ("BeatenAfternoon$EstateReader", "items", "[I", true)
  | _ => ("BeatenAfternoon$EstateReader", "ruled", "Z", false)
def tyX3 : Nat → FieldType := fun k => match k with
  | 0 => .object "BeatenAfternoon$Estate"
  | 1 => .object "BeatenAfternoon$Season"
  | 2 => .array .int
  | _ => .boolean
abbrev wsX30 : List Cond := u_ws RX3 TX3 4
theorem nmX3 : ∀ a, a < 4 → ∀ b, b < 4 → a ≠ b → (TX3 a).2.1 ≠ (TX3 b).2.1 := by decide +kernel
theorem tyX3_ok : ∀ k, k < 4 → parseFieldDescriptor (TX3 k).2.2.1 = some (tyX3 k) := by decide +kernel
abbrev cX3_init : ByteArray := prog_5_method_1_code
def yX3_init : MethodName := ⟨RX3, "<init>", "()V"⟩
abbrev cX3_read : ByteArray := prog_5_method_2_code
def yX3_read : MethodName := ⟨RX3, "read", "(LBeatenAfternoon$Tape;)Z"⟩
abbrev cX3_readClause : ByteArray := prog_5_method_3_code
def yX3_readClause : MethodName := ⟨RX3, "readClause", "(LBeatenAfternoon$Tape;)Z"⟩
abbrev cX3_readRules : ByteArray := prog_5_method_4_code
def yX3_readRules : MethodName := ⟨RX3, "readRules", "(LBeatenAfternoon$Tape;)Z"⟩
abbrev cX3_setRules : ByteArray := prog_5_method_5_code
def yX3_setRules : MethodName := ⟨RX3, "setRules", "([I)V"⟩
abbrev cX3_readThing : ByteArray := prog_5_method_6_code
def yX3_readThing : MethodName := ⟨RX3, "readThing", "(LBeatenAfternoon$Tape;)Z"⟩
abbrev cX3_readGun : ByteArray := prog_5_method_7_code
def yX3_readGun : MethodName := ⟨RX3, "readGun", "(LBeatenAfternoon$Tape;)Z"⟩
abbrev cX3_readItems : ByteArray := prog_5_method_8_code
def yX3_readItems : MethodName := ⟨RX3, "readItems", "(LBeatenAfternoon$Tape;Ljava/lang/String;[I[I)Z"⟩
def RX4 : String := "BeatenAfternoon$Ground"
def TX4 : u_T := fun k => match k with
  | 0 => ("BeatenAfternoon$Ground", "estate", "LBeatenAfternoon$Estate;", true)
  | 1 => ("BeatenAfternoon$Ground", "now", "LBeatenAfternoon$Season;", true)
  | 2 => ("BeatenAfternoon$Ground", "trial", "LBeatenAfternoon$Season;", true)
  | 3 => ("BeatenAfternoon$Ground", "law", "LBeatenAfternoon$Law;", false)
  | 4 => ("BeatenAfternoon$Ground", "risen", "I", false)
  | 5 => ("BeatenAfternoon$Ground", "order", "[I", true)
  | 6 => ("BeatenAfternoon$Ground", "takers", "[I", true)
  | 7 => ("BeatenAfternoon$Ground", "valueBy", "[I", true)
  | 8 => ("BeatenAfternoon$Ground", "takenBy", "[I", true)
  | 9 => ("BeatenAfternoon$Ground", "taken", "I", false)
  | 10 => ("BeatenAfternoon$Ground", "letBy", "I", false)
  | 11 => ("BeatenAfternoon$Ground", "value", "I", false)
  | 12 => ("BeatenAfternoon$Ground", "sorted", "[I", true)
  | _ => ("BeatenAfternoon$Ground", "letters", "[I", true)
def tyX4 : Nat → FieldType := fun k => match k with
  | 0 => .object "BeatenAfternoon$Estate"
  | 1 => .object "BeatenAfternoon$Season"
  | 2 => .object "BeatenAfternoon$Season"
  | 3 => .object "BeatenAfternoon$Law"
  | 4 => .int
  | 5 => .array .int
  | 6 => .array .int
  | 7 => .array .int
  | 8 => .array .int
  | 9 => .int
  | 10 => .int
  | 11 => .int
  | 12 => .array .int
  | _ => .array .int
abbrev wsX40 : List Cond := u_ws RX4 TX4 14
theorem nmX4 : ∀ a, a < 14 → ∀ b, b < 14 → a ≠ b → (TX4 a).2.1 ≠ (TX4 b).2.1 := by decide +kernel
theorem tyX4_ok : ∀ k, k < 14 → parseFieldDescriptor (TX4 k).2.2.1 = some (tyX4 k) := by decide +kernel
abbrev cX4_init : ByteArray := prog_6_method_1_code
def yX4_init : MethodName := ⟨RX4, "<init>", "()V"⟩
abbrev cX4_freshTrial : ByteArray := prog_6_method_2_code
def yX4_freshTrial : MethodName := ⟨RX4, "freshTrial", "()LBeatenAfternoon$Season;"⟩
abbrev cX4_rises : ByteArray := prog_6_method_3_code
def yX4_rises : MethodName := ⟨RX4, "rises", "(LBeatenAfternoon$Season;II)Z"⟩
abbrev cX4_rise : ByteArray := prog_6_method_4_code
def yX4_rise : MethodName := ⟨RX4, "rise", "(LBeatenAfternoon$Season;)V"⟩
abbrev cX4_run : ByteArray := prog_6_method_5_code
def yX4_run : MethodName := ⟨RX4, "run", "(LBeatenAfternoon$Season;)V"⟩
abbrev cX4_take : ByteArray := prog_6_method_6_code
def yX4_take : MethodName := ⟨RX4, "take", "(II)V"⟩
abbrev cX4_firstInReach : ByteArray := prog_6_method_7_code
def yX4_firstInReach : MethodName := ⟨RX4, "firstInReach", "(LBeatenAfternoon$Season;II)I"⟩
abbrev cX4_reach : ByteArray := prog_6_method_8_code
def yX4_reach : MethodName := ⟨RX4, "reach", "(LBeatenAfternoon$Season;III)I"⟩
abbrev cX4_comingOver : ByteArray := prog_6_method_9_code
def yX4_comingOver : MethodName := ⟨RX4, "comingOver", "(I)I"⟩
abbrev cX4_sortPegs : ByteArray := prog_6_method_10_code
def yX4_sortPegs : MethodName := ⟨RX4, "sortPegs", "()V"⟩
abbrev cX4_dealPegs : ByteArray := prog_6_method_11_code
def yX4_dealPegs : MethodName := ⟨RX4, "dealPegs", "(II)I"⟩
abbrev cX4_gunLeft : ByteArray := prog_6_method_12_code
def yX4_gunLeft : MethodName := ⟨RX4, "gunLeft", "(II)I"⟩
abbrev cX4_spread : ByteArray := prog_6_method_13_code
def yX4_spread : MethodName := ⟨RX4, "spread", "()I"⟩
abbrev cX4_stepAside : ByteArray := prog_6_method_14_code
def yX4_stepAside : MethodName := ⟨RX4, "stepAside", "(IIII)V"⟩
abbrev cX4_oddsOfTaking : ByteArray := prog_6_method_15_code
def yX4_oddsOfTaking : MethodName := ⟨RX4, "oddsOfTaking", "(II)I"⟩
abbrev cX4_partsTaking : ByteArray := prog_6_method_16_code
def yX4_partsTaking : MethodName := ⟨RX4, "partsTaking", "(IIII)I"⟩
abbrev cX4_partsOver : ByteArray := prog_6_method_17_code
def yX4_partsOver : MethodName := ⟨RX4, "partsOver", "(IIIII)I"⟩
def RX5 : String := "BeatenAfternoon$Law"
def TX5 : u_T := fun k => match k with
  | 0 => ("BeatenAfternoon$Law", "code", "[I", true)
  | _ => ("BeatenAfternoon$Law", "stack", "[I", true)
def tyX5 : Nat → FieldType := fun k => match k with
  | 0 => .array .int
  | _ => .array .int
abbrev wsX50 : List Cond := u_ws RX5 TX5 2
theorem nmX5 : ∀ a, a < 2 → ∀ b, b < 2 → a ≠ b → (TX5 a).2.1 ≠ (TX5 b).2.1 := by decide +kernel
theorem tyX5_ok : ∀ k, k < 2 → parseFieldDescriptor (TX5 k).2.2.1 = some (tyX5 k) := by decide +kernel
abbrev cX5_init : ByteArray := prog_7_method_1_code
def yX5_init : MethodName := ⟨RX5, "<init>", "([I)V"⟩
abbrev cX5_worth : ByteArray := prog_7_method_2_code
def yX5_worth : MethodName := ⟨RX5, "worth", "([I)I"⟩
abbrev cX5_joined : ByteArray := prog_7_method_3_code
def yX5_joined : MethodName := ⟨RX5, "joined", "(IJJ)I"⟩
def RX6 : String := "BeatenAfternoon$LawReader"
def TX6 : u_T := fun k => match k with
  | 0 => ("BeatenAfternoon$LawReader", "code", "[I", true)
  | _ => ("BeatenAfternoon$LawReader", "size", "I", false)
def tyX6 : Nat → FieldType := fun k => match k with
  | 0 => .array .int
  | _ => .int
abbrev wsX60 : List Cond := u_ws RX6 TX6 2
theorem nmX6 : ∀ a, a < 2 → ∀ b, b < 2 → a ≠ b → (TX6 a).2.1 ≠ (TX6 b).2.1 := by decide +kernel
theorem tyX6_ok : ∀ k, k < 2 → parseFieldDescriptor (TX6 k).2.2.1 = some (tyX6 k) := by decide +kernel
abbrev cX6_init : ByteArray := prog_8_method_1_code
def yX6_init : MethodName := ⟨RX6, "<init>", "()V"⟩
abbrev cX6_read : ByteArray := prog_8_method_2_code
def yX6_read : MethodName := ⟨RX6, "read", "(LBeatenAfternoon$Tape;)Z"⟩
abbrev cX6_made : ByteArray := prog_8_method_3_code
def yX6_made : MethodName := ⟨RX6, "made", "()LBeatenAfternoon$Law;"⟩
abbrev cX6_readClause : ByteArray := prog_8_method_4_code
def yX6_readClause : MethodName := ⟨RX6, "readClause", "(LBeatenAfternoon$Tape;)Z"⟩
abbrev cX6_readWorth : ByteArray := prog_8_method_5_code
def yX6_readWorth : MethodName := ⟨RX6, "readWorth", "(LBeatenAfternoon$Tape;)Z"⟩
abbrev cX6_readCondition : ByteArray := prog_8_method_6_code
def yX6_readCondition : MethodName := ⟨RX6, "readCondition", "(LBeatenAfternoon$Tape;I)Z"⟩
abbrev cX6_readTruth : ByteArray := prog_8_method_7_code
def yX6_readTruth : MethodName := ⟨RX6, "readTruth", "(LBeatenAfternoon$Tape;I)Z"⟩
abbrev cX6_readUnit : ByteArray := prog_8_method_8_code
def yX6_readUnit : MethodName := ⟨RX6, "readUnit", "(LBeatenAfternoon$Tape;I)Z"⟩
abbrev cX6_readComparison : ByteArray := prog_8_method_9_code
def yX6_readComparison : MethodName := ⟨RX6, "readComparison", "(LBeatenAfternoon$Tape;I)Z"⟩
abbrev cX6_readSum : ByteArray := prog_8_method_10_code
def yX6_readSum : MethodName := ⟨RX6, "readSum", "(LBeatenAfternoon$Tape;I)Z"⟩
abbrev cX6_readTerm : ByteArray := prog_8_method_11_code
def yX6_readTerm : MethodName := ⟨RX6, "readTerm", "(LBeatenAfternoon$Tape;I)Z"⟩
abbrev cX6_readAtom : ByteArray := prog_8_method_12_code
def yX6_readAtom : MethodName := ⟨RX6, "readAtom", "(LBeatenAfternoon$Tape;I)Z"⟩
abbrev cX6_isComparison : ByteArray := prog_8_method_13_code
def yX6_isComparison : MethodName := ⟨RX6, "isComparison", "(I)Z"⟩
abbrev cX6_write : ByteArray := prog_8_method_14_code
def yX6_write : MethodName := ⟨RX6, "write", "(I)V"⟩
def RX7 : String := "BeatenAfternoon$Past"
def TX7 : u_T := fun k => match k with
  | 0 => ("BeatenAfternoon$Past", "acts", "I", false)
  | 1 => ("BeatenAfternoon$Past", "next", "I", false)
  | 2 => ("BeatenAfternoon$Past", "seasons", "[I", true)
  | 3 => ("BeatenAfternoon$Past", "entries", "[I", true)
  | 4 => ("BeatenAfternoon$Past", "hasImage", "Z", false)
  | 5 => ("BeatenAfternoon$Past", "imageOfSeason", "[I", true)
  | _ => ("BeatenAfternoon$Past", "imageOfEntries", "[I", true)
def tyX7 : Nat → FieldType := fun k => match k with
  | 0 => .int
  | 1 => .int
  | 2 => .array .int
  | 3 => .array .int
  | 4 => .boolean
  | 5 => .array .int
  | _ => .array .int
abbrev wsX70 : List Cond := u_ws RX7 TX7 7
theorem nmX7 : ∀ a, a < 7 → ∀ b, b < 7 → a ≠ b → (TX7 a).2.1 ≠ (TX7 b).2.1 := by decide +kernel
theorem tyX7_ok : ∀ k, k < 7 → parseFieldDescriptor (TX7 k).2.2.1 = some (tyX7 k) := by decide +kernel
abbrev cX7_init : ByteArray := prog_9_method_1_code
def yX7_init : MethodName := ⟨RX7, "<init>", "()V"⟩
abbrev cX7_keep : ByteArray := prog_9_method_2_code
def yX7_keep : MethodName := ⟨RX7, "keep", "(LBeatenAfternoon$Season;)V"⟩
abbrev cX7_takeBack : ByteArray := prog_9_method_3_code
def yX7_takeBack : MethodName := ⟨RX7, "takeBack", "(LBeatenAfternoon$Season;)Z"⟩
abbrev cX7_writeLog : ByteArray := prog_9_method_4_code
def yX7_writeLog : MethodName := ⟨RX7, "writeLog", "(IIII)V"⟩
abbrev cX7_readLog : ByteArray := prog_9_method_5_code
def yX7_readLog : MethodName := ⟨RX7, "readLog", "(II)I"⟩
abbrev cX7_keepImage : ByteArray := prog_9_method_6_code
def yX7_keepImage : MethodName := ⟨RX7, "keepImage", "(LBeatenAfternoon$Season;)V"⟩
abbrev cX7_bringImageBack : ByteArray := prog_9_method_7_code
def yX7_bringImageBack : MethodName := ⟨RX7, "bringImageBack", "(LBeatenAfternoon$Season;)Z"⟩
abbrev cX7_forget : ByteArray := prog_9_method_8_code
def yX7_forget : MethodName := ⟨RX7, "forget", "()V"⟩
def RX8 : String := "BeatenAfternoon$Season"
def TX8 : u_T := fun k => match k with
  | 0 => ("BeatenAfternoon$Season", "wind", "I", false)
  | 1 => ("BeatenAfternoon$Season", "coins", "I", false)
  | 2 => ("BeatenAfternoon$Season", "from", "I", false)
  | 3 => ("BeatenAfternoon$Season", "to", "I", false)
  | 4 => ("BeatenAfternoon$Season", "out", "I", false)
  | 5 => ("BeatenAfternoon$Season", "day", "I", false)
  | 6 => ("BeatenAfternoon$Season", "pegs", "[I", true)
  | 7 => ("BeatenAfternoon$Season", "skills", "[I", true)
  | _ => ("BeatenAfternoon$Season", "bags", "[I", true)
def tyX8 : Nat → FieldType := fun k => match k with
  | 0 => .int
  | 1 => .int
  | 2 => .int
  | 3 => .int
  | 4 => .int
  | 5 => .int
  | 6 => .array .int
  | 7 => .array .int
  | _ => .array .int
abbrev wsX80 : List Cond := u_ws RX8 TX8 9
theorem nmX8 : ∀ a, a < 9 → ∀ b, b < 9 → a ≠ b → (TX8 a).2.1 ≠ (TX8 b).2.1 := by decide +kernel
theorem tyX8_ok : ∀ k, k < 9 → parseFieldDescriptor (TX8 k).2.2.1 = some (tyX8 k) := by decide +kernel
abbrev cX8_init : ByteArray := prog_10_method_1_code
def yX8_init : MethodName := ⟨RX8, "<init>", "()V"⟩
abbrev cX8_isOut : ByteArray := prog_10_method_2_code
def yX8_isOut : MethodName := ⟨RX8, "isOut", "(I)Z"⟩
abbrev cX8_bagsOfAll : ByteArray := prog_10_method_3_code
def yX8_bagsOfAll : MethodName := ⟨RX8, "bagsOfAll", "()I"⟩
abbrev cX8_copyFrom : ByteArray := prog_10_method_4_code
def yX8_copyFrom : MethodName := ⟨RX8, "copyFrom", "(LBeatenAfternoon$Season;)V"⟩
abbrev cX8_save : ByteArray := prog_10_method_5_code
def yX8_save : MethodName := ⟨RX8, "save", "([II)V"⟩
abbrev cX8_load : ByteArray := prog_10_method_6_code
def yX8_load : MethodName := ⟨RX8, "load", "([II)V"⟩
def RX9 : String := "BeatenAfternoon$Sightings"
def TX9 : u_T := fun k => match k with
  | 0 => ("BeatenAfternoon$Sightings", "many", "I", false)
  | 1 => ("BeatenAfternoon$Sightings", "things", "[I", true)
  | 2 => ("BeatenAfternoon$Sightings", "winds", "[I", true)
  | 3 => ("BeatenAfternoon$Sightings", "columns", "[I", true)
  | _ => ("BeatenAfternoon$Sightings", "were", "[Z", true)
def tyX9 : Nat → FieldType := fun k => match k with
  | 0 => .int
  | 1 => .array .int
  | 2 => .array .int
  | 3 => .array .int
  | _ => .array .boolean
abbrev wsX90 : List Cond := u_ws RX9 TX9 5
theorem nmX9 : ∀ a, a < 5 → ∀ b, b < 5 → a ≠ b → (TX9 a).2.1 ≠ (TX9 b).2.1 := by decide +kernel
theorem tyX9_ok : ∀ k, k < 5 → parseFieldDescriptor (TX9 k).2.2.1 = some (tyX9 k) := by decide +kernel
abbrev cX9_init : ByteArray := prog_11_method_1_code
def yX9_init : MethodName := ⟨RX9, "<init>", "()V"⟩
abbrev cX9_add : ByteArray := prog_11_method_2_code
def yX9_add : MethodName := ⟨RX9, "add", "(IIIZ)Z"⟩
abbrev cX9_fit : ByteArray := prog_11_method_3_code
def yX9_fit : MethodName := ⟨RX9, "fit", "(LBeatenAfternoon$Estate;II)Z"⟩
abbrev cX9_apart : ByteArray := prog_11_method_4_code
def yX9_apart : MethodName := ⟨RX9, "apart", "(LBeatenAfternoon$Estate;III)I"⟩
def RX10 : String := "BeatenAfternoon$Tape"
def TX10 : u_T := fun k => match k with
  | 0 => ("BeatenAfternoon$Tape", "signs", "[C", true)
  | 1 => ("BeatenAfternoon$Tape", "length", "I", false)
  | _ => ("BeatenAfternoon$Tape", "at", "I", false)
def tyX10 : Nat → FieldType := fun k => match k with
  | 0 => .array .char
  | 1 => .int
  | _ => .int
abbrev wsX100 : List Cond := u_ws RX10 TX10 3
theorem nmX10 : ∀ a, a < 3 → ∀ b, b < 3 → a ≠ b → (TX10 a).2.1 ≠ (TX10 b).2.1 := by decide +kernel
theorem tyX10_ok : ∀ k, k < 3 → parseFieldDescriptor (TX10 k).2.2.1 = some (tyX10 k) := by decide +kernel
abbrev cX10_init : ByteArray := prog_12_method_1_code
def yX10_init : MethodName := ⟨RX10, "<init>", "()V"⟩
abbrev cX10_add : ByteArray := prog_12_method_2_code
def yX10_add : MethodName := ⟨RX10, "add", "(IIIII)Z"⟩
abbrev cX10_put : ByteArray := prog_12_method_3_code
def yX10_put : MethodName := ⟨RX10, "put", "(II)I"⟩
abbrev cX10_look : ByteArray := prog_12_method_4_code
def yX10_look : MethodName := ⟨RX10, "look", "()I"⟩
abbrev cX10_pass : ByteArray := prog_12_method_5_code
def yX10_pass : MethodName := ⟨RX10, "pass", "(I)Z"⟩
abbrev cX10_isAtDigit : ByteArray := prog_12_method_6_code
def yX10_isAtDigit : MethodName := ⟨RX10, "isAtDigit", "()Z"⟩
abbrev cX10_readNumber : ByteArray := prog_12_method_7_code
def yX10_readNumber : MethodName := ⟨RX10, "readNumber", "(II)I"⟩
def RX11 : String := "BeatenAfternoon"
def TX11 : u_T := fun k => match k with
  | 0 => ("BeatenAfternoon", "tape", "LBeatenAfternoon$Tape;", true)
  | 1 => ("BeatenAfternoon", "estateReader", "LBeatenAfternoon$EstateReader;", true)
  | 2 => ("BeatenAfternoon", "lawReader", "LBeatenAfternoon$LawReader;", true)
  | 3 => ("BeatenAfternoon", "ground", "LBeatenAfternoon$Ground;", true)
  | 4 => ("BeatenAfternoon", "laws", "[LBeatenAfternoon$Law;", true)
  | 5 => ("BeatenAfternoon", "lawCount", "I", false)
  | 6 => ("BeatenAfternoon", "lawThatHolds", "I", false)
  | 7 => ("BeatenAfternoon", "lotsNow", "I", false)
  | 8 => ("BeatenAfternoon", "drawn", "J", false)
  | 9 => ("BeatenAfternoon", "refused", "[I", true)
  | 10 => ("BeatenAfternoon", "past", "LBeatenAfternoon$Past;", true)
  | 11 => ("BeatenAfternoon", "sightings", "LBeatenAfternoon$Sightings;", true)
  | 12 => ("BeatenAfternoon", "claims", "LBeatenAfternoon$Claims;", true)
  | _ => ("BeatenAfternoon", "duel", "LBeatenAfternoon$Duel;", true)
def tyX11 : Nat → FieldType := fun k => match k with
  | 0 => .object "BeatenAfternoon$Tape"
  | 1 => .object "BeatenAfternoon$EstateReader"
  | 2 => .object "BeatenAfternoon$LawReader"
  | 3 => .object "BeatenAfternoon$Ground"
  | 4 => .array (.object "BeatenAfternoon$Law")
  | 5 => .int
  | 6 => .int
  | 7 => .int
  | 8 => .long
  | 9 => .array .int
  | 10 => .object "BeatenAfternoon$Past"
  | 11 => .object "BeatenAfternoon$Sightings"
  | 12 => .object "BeatenAfternoon$Claims"
  | _ => .object "BeatenAfternoon$Duel"
abbrev wsX110 : List Cond := u_ws RX11 TX11 14
theorem nmX11 : ∀ a, a < 14 → ∀ b, b < 14 → a ≠ b → (TX11 a).2.1 ≠ (TX11 b).2.1 := by decide +kernel
theorem tyX11_ok : ∀ k, k < 14 → parseFieldDescriptor (TX11 k).2.2.1 = some (tyX11 k) := by decide +kernel
abbrev cX11_init : ByteArray := prog_1_method_1_code
def yX11_init : MethodName := ⟨RX11, "<init>", "()V"⟩
abbrev cX11_feed : ByteArray := prog_1_method_2_code
def yX11_feed : MethodName := ⟨RX11, "feed", "(IIIII)I"⟩
abbrev cX11_end : ByteArray := prog_1_method_3_code
def yX11_end : MethodName := ⟨RX11, "end", "(I)Z"⟩
abbrev cX11_fault : ByteArray := prog_1_method_4_code
def yX11_fault : MethodName := ⟨RX11, "fault", "(I)I"⟩
abbrev cX11_text : ByteArray := prog_1_method_5_code
def yX11_text : MethodName := ⟨RX11, "text", "(I)I"⟩
abbrev cX11_rule : ByteArray := prog_1_method_6_code
def yX11_rule : MethodName := ⟨RX11, "rule", "(I)I"⟩
abbrev cX11_thing : ByteArray := prog_1_method_7_code
def yX11_thing : MethodName := ⟨RX11, "thing", "(II)I"⟩
abbrev cX11_gun : ByteArray := prog_1_method_8_code
def yX11_gun : MethodName := ⟨RX11, "gun", "(II)I"⟩
abbrev cX11_law : ByteArray := prog_1_method_9_code
def yX11_law : MethodName := ⟨RX11, "law", "(I)Z"⟩
abbrev cX11_drives : ByteArray := prog_1_method_10_code
def yX11_drives : MethodName := ⟨RX11, "drives", "(I)I"⟩
abbrev cX11_line : ByteArray := prog_1_method_11_code
def yX11_line : MethodName := ⟨RX11, "line", "(II)I"⟩
abbrev cX11_move : ByteArray := prog_1_method_12_code
def yX11_move : MethodName := ⟨RX11, "move", "(II)I"⟩
abbrev cX11_practise : ByteArray := prog_1_method_13_code
def yX11_practise : MethodName := ⟨RX11, "practise", "(I)I"⟩
abbrev cX11_wind : ByteArray := prog_1_method_14_code
def yX11_wind : MethodName := ⟨RX11, "wind", "(I)I"⟩
abbrev cX11_putOut : ByteArray := prog_1_method_15_code
def yX11_putOut : MethodName := ⟨RX11, "putOut", "(I)I"⟩
abbrev cX11_lots : ByteArray := prog_1_method_16_code
def yX11_lots : MethodName := ⟨RX11, "lots", "(I)Z"⟩
abbrev cX11_years : ByteArray := prog_1_method_17_code
def yX11_years : MethodName := ⟨RX11, "years", "(IJ)I"⟩
abbrev cX11_status : ByteArray := prog_1_method_18_code
def yX11_status : MethodName := ⟨RX11, "status", "(I)I"⟩
abbrev cX11_undo : ByteArray := prog_1_method_19_code
def yX11_undo : MethodName := ⟨RX11, "undo", "()I"⟩
abbrev cX11_log : ByteArray := prog_1_method_20_code
def yX11_log : MethodName := ⟨RX11, "log", "(II)I"⟩
abbrev cX11_taker : ByteArray := prog_1_method_21_code
def yX11_taker : MethodName := ⟨RX11, "taker", "(I)I"⟩
abbrev cX11_bestLine : ByteArray := prog_1_method_22_code
def yX11_bestLine : MethodName := ⟨RX11, "bestLine", "(II)I"⟩
abbrev cX11_bestPeg : ByteArray := prog_1_method_23_code
def yX11_bestPeg : MethodName := ⟨RX11, "bestPeg", "(II)I"⟩
abbrev cX11_dealt : ByteArray := prog_1_method_24_code
def yX11_dealt : MethodName := ⟨RX11, "dealt", "(I)I"⟩
abbrev cX11_seen : ByteArray := prog_1_method_25_code
def yX11_seen : MethodName := ⟨RX11, "seen", "(IIIZ)I"⟩
abbrev cX11_lay : ByteArray := prog_1_method_26_code
def yX11_lay : MethodName := ⟨RX11, "lay", "(II)I"⟩
abbrev cX11_ask : ByteArray := prog_1_method_27_code
def yX11_ask : MethodName := ⟨RX11, "ask", "(II)I"⟩
abbrev cX11_claim : ByteArray := prog_1_method_28_code
def yX11_claim : MethodName := ⟨RX11, "claim", "(I)I"⟩
abbrev cX11_game : ByteArray := prog_1_method_29_code
def yX11_game : MethodName := ⟨RX11, "game", "(IIIII)I"⟩
abbrev cX11_rests : ByteArray := prog_1_method_30_code
def yX11_rests : MethodName := ⟨RX11, "rests", "(III)I"⟩
abbrev cX11_odds : ByteArray := prog_1_method_31_code
def yX11_odds : MethodName := ⟨RX11, "odds", "(II)I"⟩
abbrev cX11_shares : ByteArray := prog_1_method_32_code
def yX11_shares : MethodName := ⟨RX11, "shares", "(II)I"⟩
abbrev cX11_rising : ByteArray := prog_1_method_33_code
def yX11_rising : MethodName := ⟨RX11, "rising", "(I)I"⟩
abbrev cX11_most : ByteArray := prog_1_method_34_code
def yX11_most : MethodName := ⟨RX11, "most", "(I)I"⟩
abbrev cX11_ahead : ByteArray := prog_1_method_35_code
def yX11_ahead : MethodName := ⟨RX11, "ahead", "(I)I"⟩
abbrev cX11_image : ByteArray := prog_1_method_36_code
def yX11_image : MethodName := ⟨RX11, "image", "()I"⟩
abbrev cX11_back : ByteArray := prog_1_method_37_code
def yX11_back : MethodName := ⟨RX11, "back", "()I"⟩
abbrev cX11_count : ByteArray := prog_1_method_38_code
def yX11_count : MethodName := ⟨RX11, "count", "(I)I"⟩
abbrev cX11_hasEstate : ByteArray := prog_1_method_39_code
def yX11_hasEstate : MethodName := ⟨RX11, "hasEstate", "()Z"⟩
abbrev cX11_isThing : ByteArray := prog_1_method_40_code
def yX11_isThing : MethodName := ⟨RX11, "isThing", "(I)Z"⟩
abbrev cX11_isGun : ByteArray := prog_1_method_41_code
def yX11_isGun : MethodName := ⟨RX11, "isGun", "(I)Z"⟩
abbrev cX11_areTwoGuns : ByteArray := prog_1_method_42_code
def yX11_areTwoGuns : MethodName := ⟨RX11, "areTwoGuns", "(II)Z"⟩
abbrev cX11_isColumn : ByteArray := prog_1_method_43_code
def yX11_isColumn : MethodName := ⟨RX11, "isColumn", "(I)Z"⟩
abbrev cX11_isWind : ByteArray := prog_1_method_44_code
def yX11_isWind : MethodName := ⟨RX11, "isWind", "(I)Z"⟩
abbrev cX11_isPair : ByteArray := prog_1_method_45_code
def yX11_isPair : MethodName := ⟨RX11, "isPair", "(I)Z"⟩
abbrev cX11_refuse : ByteArray := prog_1_method_46_code
def yX11_refuse : MethodName := ⟨RX11, "refuse", "(I)I"⟩
abbrev cX11_settle : ByteArray := prog_1_method_47_code
def yX11_settle : MethodName := ⟨RX11, "settle", "()I"⟩
abbrev cX11_enact : ByteArray := prog_1_method_48_code
def yX11_enact : MethodName := ⟨RX11, "enact", "()I"⟩
abbrev cX11_overOrLost : ByteArray := prog_1_method_49_code
def yX11_overOrLost : MethodName := ⟨RX11, "overOrLost", "(I)I"⟩
abbrev cX11_logLength : ByteArray := prog_1_method_50_code
def yX11_logLength : MethodName := ⟨RX11, "logLength", "()I"⟩
abbrev cX11_driveOnce : ByteArray := prog_1_method_51_code
def yX11_driveOnce : MethodName := ⟨RX11, "driveOnce", "()V"⟩
abbrev cX11_drawAhead : ByteArray := prog_1_method_52_code
def yX11_drawAhead : MethodName := ⟨RX11, "drawAhead", "()V"⟩
abbrev cX11_draw : ByteArray := prog_1_method_53_code
def yX11_draw : MethodName := ⟨RX11, "draw", "(I)I"⟩
abbrev cX11_lastToRise : ByteArray := prog_1_method_54_code
def yX11_lastToRise : MethodName := ⟨RX11, "lastToRise", "()I"⟩
abbrev cX11_finest : ByteArray := prog_1_method_55_code
def yX11_finest : MethodName := ⟨RX11, "finest", "()I"⟩
abbrev cX11_busiest : ByteArray := prog_1_method_56_code
def yX11_busiest : MethodName := ⟨RX11, "busiest", "()I"⟩
abbrev cX11_firstGreatest : ByteArray := prog_1_method_57_code
def yX11_firstGreatest : MethodName := ⟨RX11, "firstGreatest", "([I)I"⟩
abbrev cX11_widestGap : ByteArray := prog_1_method_58_code
def yX11_widestGap : MethodName := ⟨RX11, "widestGap", "()I"⟩
abbrev cX11_valueOut : ByteArray := prog_1_method_59_code
def yX11_valueOut : MethodName := ⟨RX11, "valueOut", "()I"⟩
def RX12 : String := "BeatenAfternoonModel"
def TX12 : u_T := fun k => match k with
  | 0 => ("BeatenAfternoonModel", "thrown", "I", false)
  | 1 => ("BeatenAfternoonModel", "tape", "[I", true)
  | 2 => ("BeatenAfternoonModel", "size", "I", false)
  | 3 => ("BeatenAfternoonModel", "at", "I", false)
  | 4 => ("BeatenAfternoonModel", "wrong", "I", false)
  | 5 => ("BeatenAfternoonModel", "deep", "I", false)
  | 6 => ("BeatenAfternoonModel", "code", "[I", true)
  | 7 => ("BeatenAfternoonModel", "value", "[I", true)
  | 8 => ("BeatenAfternoonModel", "codes", "[I", true)
  | 9 => ("BeatenAfternoonModel", "clauses", "[I", true)
  | 10 => ("BeatenAfternoonModel", "testFrom", "[I", true)
  | 11 => ("BeatenAfternoonModel", "sumFrom", "[I", true)
  | 12 => ("BeatenAfternoonModel", "sumTo", "[I", true)
  | 13 => ("BeatenAfternoonModel", "laws", "I", false)
  | 14 => ("BeatenAfternoonModel", "text", "I", false)
  | 15 => ("BeatenAfternoonModel", "letters", "[I", true)
  | 16 => ("BeatenAfternoonModel", "stack", "[I", true)
  | 17 => ("BeatenAfternoonModel", "readRule", "[I", true)
  | 18 => ("BeatenAfternoonModel", "readThing", "[I", true)
  | 19 => ("BeatenAfternoonModel", "readGun", "[I", true)
  | 20 => ("BeatenAfternoonModel", "readThings", "I", false)
  | 21 => ("BeatenAfternoonModel", "readGuns", "I", false)
  | 22 => ("BeatenAfternoonModel", "rule", "[I", true)
  | 23 => ("BeatenAfternoonModel", "thing", "[I", true)
  | 24 => ("BeatenAfternoonModel", "things", "I", false)
  | 25 => ("BeatenAfternoonModel", "guns", "I", false)
  | 26 => ("BeatenAfternoonModel", "now", "[I", true)
  | 27 => ("BeatenAfternoonModel", "refused", "[I", true)
  | 28 => ("BeatenAfternoonModel", "holding", "I", false)
  | 29 => ("BeatenAfternoonModel", "lot", "I", false)
  | 30 => ("BeatenAfternoonModel", "takerOf", "[I", true)
  | 31 => ("BeatenAfternoonModel", "valueOf", "[I", true)
  | 32 => ("BeatenAfternoonModel", "manyOf", "[I", true)
  | 33 => ("BeatenAfternoonModel", "rises", "[I", true)
  | 34 => ("BeatenAfternoonModel", "taken", "I", false)
  | 35 => ("BeatenAfternoonModel", "letBy", "I", false)
  | 36 => ("BeatenAfternoonModel", "risen", "I", false)
  | 37 => ("BeatenAfternoonModel", "bagged", "I", false)
  | 38 => ("BeatenAfternoonModel", "kept", "[I", true)
  | 39 => ("BeatenAfternoonModel", "acts", "I", false)
  | 40 => ("BeatenAfternoonModel", "draws", "J", false)
  | 41 => ("BeatenAfternoonModel", "bestRow", "I", false)
  | 42 => ("BeatenAfternoonModel", "bestMany", "I", false)
  | 43 => ("BeatenAfternoonModel", "sorted", "[I", true)
  | 44 => ("BeatenAfternoonModel", "stood", "[I", true)
  | 45 => ("BeatenAfternoonModel", "noteThing", "[I", true)
  | 46 => ("BeatenAfternoonModel", "noteWind", "[I", true)
  | 47 => ("BeatenAfternoonModel", "noteColumn", "[I", true)
  | 48 => ("BeatenAfternoonModel", "noteIs", "[Z", true)
  | 49 => ("BeatenAfternoonModel", "noted", "I", false)
  | 50 => ("BeatenAfternoonModel", "image", "[I", true)
  | _ => ("BeatenAfternoonModel", "hasImage", "Z", false)
def tyX12 : Nat → FieldType := fun k => match k with
  | 0 => .int
  | 1 => .array .int
  | 2 => .int
  | 3 => .int
  | 4 => .int
  | 5 => .int
  | 6 => .array .int
  | 7 => .array .int
  | 8 => .array .int
  | 9 => .array .int
  | 10 => .array .int
  | 11 => .array .int
  | 12 => .array .int
  | 13 => .int
  | 14 => .int
  | 15 => .array .int
  | 16 => .array .int
  | 17 => .array .int
  | 18 => .array .int
  | 19 => .array .int
  | 20 => .int
  | 21 => .int
  | 22 => .array .int
  | 23 => .array .int
  | 24 => .int
  | 25 => .int
  | 26 => .array .int
  | 27 => .array .int
  | 28 => .int
  | 29 => .int
  | 30 => .array .int
  | 31 => .array .int
  | 32 => .array .int
  | 33 => .array .int
  | 34 => .int
  | 35 => .int
  | 36 => .int
  | 37 => .int
  | 38 => .array .int
  | 39 => .int
  | 40 => .long
  | 41 => .int
  | 42 => .int
  | 43 => .array .int
  | 44 => .array .int
  | 45 => .array .int
  | 46 => .array .int
  | 47 => .array .int
  | 48 => .array .boolean
  | 49 => .int
  | 50 => .array .int
  | _ => .boolean
abbrev wsX120 : List Cond := u_ws RX12 TX12 52
theorem nmX12 : ∀ a, a < 52 → ∀ b, b < 52 → a ≠ b → (TX12 a).2.1 ≠ (TX12 b).2.1 := by decide +kernel
theorem tyX12_ok : ∀ k, k < 52 → parseFieldDescriptor (TX12 k).2.2.1 = some (tyX12 k) := by decide +kernel
abbrev cX12_in : ByteArray := prog_14_method_1_code
def yX12_in : MethodName := ⟨RX12, "in", "(III)Z"⟩
abbrev cX12_has : ByteArray := prog_14_method_2_code
def yX12_has : MethodName := ⟨RX12, "has", "(II)Z"⟩
abbrev cX12_init : ByteArray := prog_14_method_3_code
def yX12_init : MethodName := ⟨RX12, "<init>", "()V"⟩
abbrev cX12_thrown : ByteArray := prog_14_method_4_code
def yX12_thrown : MethodName := ⟨RX12, "thrown", "()I"⟩
abbrev cX12_byteOf : ByteArray := prog_14_method_5_code
def yX12_byteOf : MethodName := ⟨RX12, "byteOf", "(IIIIII)I"⟩
abbrev cX12_feed : ByteArray := prog_14_method_6_code
def yX12_feed : MethodName := ⟨RX12, "feed", "(IIIII)I"⟩
abbrev cX12_end : ByteArray := prog_14_method_7_code
def yX12_end : MethodName := ⟨RX12, "end", "(I)Z"⟩
abbrev cX12_here : ByteArray := prog_14_method_8_code
def yX12_here : MethodName := ⟨RX12, "here", "()I"⟩
abbrev cX12_look : ByteArray := prog_14_method_9_code
def yX12_look : MethodName := ⟨RX12, "look", "()I"⟩
abbrev cX12_bad : ByteArray := prog_14_method_10_code
def yX12_bad : MethodName := ⟨RX12, "bad", "()V"⟩
abbrev cX12_isDigit : ByteArray := prog_14_method_11_code
def yX12_isDigit : MethodName := ⟨RX12, "isDigit", "(I)Z"⟩
abbrev cX12_put : ByteArray := prog_14_method_12_code
def yX12_put : MethodName := ⟨RX12, "put", "(II)V"⟩
abbrev cX12_letterOf : ByteArray := prog_14_method_13_code
def yX12_letterOf : MethodName := ⟨RX12, "letterOf", "(I)I"⟩
abbrev cX12_opens : ByteArray := prog_14_method_14_code
def yX12_opens : MethodName := ⟨RX12, "opens", "()V"⟩
abbrev cX12_closes : ByteArray := prog_14_method_15_code
def yX12_closes : MethodName := ⟨RX12, "closes", "(I)V"⟩
abbrev cX12_plainNumber : ByteArray := prog_14_method_16_code
def yX12_plainNumber : MethodName := ⟨RX12, "plainNumber", "()I"⟩
abbrev cX12_atom : ByteArray := prog_14_method_17_code
def yX12_atom : MethodName := ⟨RX12, "atom", "()V"⟩
abbrev cX12_term : ByteArray := prog_14_method_18_code
def yX12_term : MethodName := ⟨RX12, "term", "()V"⟩
abbrev cX12_sum : ByteArray := prog_14_method_19_code
def yX12_sum : MethodName := ⟨RX12, "sum", "()V"⟩
abbrev cX12_isSign : ByteArray := prog_14_method_20_code
def yX12_isSign : MethodName := ⟨RX12, "isSign", "(I)Z"⟩
abbrev cX12_compare : ByteArray := prog_14_method_21_code
def yX12_compare : MethodName := ⟨RX12, "compare", "()V"⟩
abbrev cX12_unit : ByteArray := prog_14_method_22_code
def yX12_unit : MethodName := ⟨RX12, "unit", "()V"⟩
abbrev cX12_goOnAnd : ByteArray := prog_14_method_23_code
def yX12_goOnAnd : MethodName := ⟨RX12, "goOnAnd", "()V"⟩
abbrev cX12_goOnOr : ByteArray := prog_14_method_24_code
def yX12_goOnOr : MethodName := ⟨RX12, "goOnOr", "()V"⟩
abbrev cX12_condition : ByteArray := prog_14_method_25_code
def yX12_condition : MethodName := ⟨RX12, "condition", "()V"⟩
abbrev cX12_clause : ByteArray := prog_14_method_26_code
def yX12_clause : MethodName := ⟨RX12, "clause", "()V"⟩
abbrev cX12_open : ByteArray := prog_14_method_27_code
def yX12_open : MethodName := ⟨RX12, "open", "(I)V"⟩
abbrev cX12_atEnd : ByteArray := prog_14_method_28_code
def yX12_atEnd : MethodName := ⟨RX12, "atEnd", "()I"⟩
abbrev cX12_readLaw : ByteArray := prog_14_method_29_code
def yX12_readLaw : MethodName := ⟨RX12, "readLaw", "(I)I"⟩
abbrev cX12_bounded : ByteArray := prog_14_method_30_code
def yX12_bounded : MethodName := ⟨RX12, "bounded", "(J)I"⟩
abbrev cX12_worked : ByteArray := prog_14_method_31_code
def yX12_worked : MethodName := ⟨RX12, "worked", "(IJJ)I"⟩
abbrev cX12_workOut : ByteArray := prog_14_method_32_code
def yX12_workOut : MethodName := ⟨RX12, "workOut", "(III)I"⟩
abbrev cX12_worthOf : ByteArray := prog_14_method_33_code
def yX12_worthOf : MethodName := ⟨RX12, "worthOf", "(I)I"⟩
abbrev cX12_number : ByteArray := prog_14_method_34_code
def yX12_number : MethodName := ⟨RX12, "number", "(II)I"⟩
abbrev cX12_itemOf : ByteArray := prog_14_method_35_code
def yX12_itemOf : MethodName := ⟨RX12, "itemOf", "(II)I"⟩
abbrev cX12_highest : ByteArray := prog_14_method_36_code
def yX12_highest : MethodName := ⟨RX12, "highest", "(II)I"⟩
abbrev cX12_usual : ByteArray := prog_14_method_37_code
def yX12_usual : MethodName := ⟨RX12, "usual", "(II)I"⟩
abbrev cX12_items : ByteArray := prog_14_method_38_code
def yX12_items : MethodName := ⟨RX12, "items", "(I[III)V"⟩
abbrev cX12_readEstate : ByteArray := prog_14_method_39_code
def yX12_readEstate : MethodName := ⟨RX12, "readEstate", "()I"⟩
abbrev cX12_fault : ByteArray := prog_14_method_40_code
def yX12_fault : MethodName := ⟨RX12, "fault", "(I)I"⟩
abbrev cX12_takeEstate : ByteArray := prog_14_method_41_code
def yX12_takeEstate : MethodName := ⟨RX12, "takeEstate", "()I"⟩
abbrev cX12_text : ByteArray := prog_14_method_42_code
def yX12_text : MethodName := ⟨RX12, "text", "(I)I"⟩
abbrev cX12_of : ByteArray := prog_14_method_43_code
def yX12_of : MethodName := ⟨RX12, "of", "(II)I"⟩
abbrev cX12_isThing : ByteArray := prog_14_method_44_code
def yX12_isThing : MethodName := ⟨RX12, "isThing", "(I)Z"⟩
abbrev cX12_isGun : ByteArray := prog_14_method_45_code
def yX12_isGun : MethodName := ⟨RX12, "isGun", "(I)Z"⟩
abbrev cX12_isColumn : ByteArray := prog_14_method_46_code
def yX12_isColumn : MethodName := ⟨RX12, "isColumn", "(I)Z"⟩
abbrev cX12_isWind : ByteArray := prog_14_method_47_code
def yX12_isWind : MethodName := ⟨RX12, "isWind", "(I)Z"⟩
abbrev cX12_isOut : ByteArray := prog_14_method_48_code
def yX12_isOut : MethodName := ⟨RX12, "isOut", "(I)Z"⟩
abbrev cX12_flies : ByteArray := prog_14_method_49_code
def yX12_flies : MethodName := ⟨RX12, "flies", "(III)I"⟩
abbrev cX12_columnOf : ByteArray := prog_14_method_50_code
def yX12_columnOf : MethodName := ⟨RX12, "columnOf", "(I)I"⟩
abbrev cX12_overNow : ByteArray := prog_14_method_51_code
def yX12_overNow : MethodName := ⟨RX12, "overNow", "(I)I"⟩
abbrev cX12_risesAt : ByteArray := prog_14_method_52_code
def yX12_risesAt : MethodName := ⟨RX12, "risesAt", "(II)Z"⟩
abbrev cX12_reachOf : ByteArray := prog_14_method_53_code
def yX12_reachOf : MethodName := ⟨RX12, "reachOf", "(IIII)I"⟩
abbrev cX12_takes : ByteArray := prog_14_method_54_code
def yX12_takes : MethodName := ⟨RX12, "takes", "(II)I"⟩
abbrev cX12_layDrive : ByteArray := prog_14_method_55_code
def yX12_layDrive : MethodName := ⟨RX12, "layDrive", "()V"⟩
abbrev cX12_rule : ByteArray := prog_14_method_56_code
def yX12_rule : MethodName := ⟨RX12, "rule", "(I)I"⟩
abbrev cX12_thing : ByteArray := prog_14_method_57_code
def yX12_thing : MethodName := ⟨RX12, "thing", "(II)I"⟩
abbrev cX12_gun : ByteArray := prog_14_method_58_code
def yX12_gun : MethodName := ⟨RX12, "gun", "(II)I"⟩
abbrev cX12_law : ByteArray := prog_14_method_59_code
def yX12_law : MethodName := ⟨RX12, "law", "(I)Z"⟩
abbrev cX12_keep : ByteArray := prog_14_method_60_code
def yX12_keep : MethodName := ⟨RX12, "keep", "()V"⟩
abbrev cX12_isRefused : ByteArray := prog_14_method_61_code
def yX12_isRefused : MethodName := ⟨RX12, "isRefused", "(I)Z"⟩
abbrev cX12_passDrive : ByteArray := prog_14_method_62_code
def yX12_passDrive : MethodName := ⟨RX12, "passDrive", "()V"⟩
abbrev cX12_areDrives : ByteArray := prog_14_method_63_code
def yX12_areDrives : MethodName := ⟨RX12, "areDrives", "(I)Z"⟩
abbrev cX12_drives : ByteArray := prog_14_method_64_code
def yX12_drives : MethodName := ⟨RX12, "drives", "(I)I"⟩
abbrev cX12_line : ByteArray := prog_14_method_65_code
def yX12_line : MethodName := ⟨RX12, "line", "(II)I"⟩
abbrev cX12_move : ByteArray := prog_14_method_66_code
def yX12_move : MethodName := ⟨RX12, "move", "(II)I"⟩
abbrev cX12_practise : ByteArray := prog_14_method_67_code
def yX12_practise : MethodName := ⟨RX12, "practise", "(I)I"⟩
abbrev cX12_wind : ByteArray := prog_14_method_68_code
def yX12_wind : MethodName := ⟨RX12, "wind", "(I)I"⟩
abbrev cX12_putOut : ByteArray := prog_14_method_69_code
def yX12_putOut : MethodName := ⟨RX12, "putOut", "(I)I"⟩
abbrev cX12_lots : ByteArray := prog_14_method_70_code
def yX12_lots : MethodName := ⟨RX12, "lots", "(I)Z"⟩
abbrev cX12_draw : ByteArray := prog_14_method_71_code
def yX12_draw : MethodName := ⟨RX12, "draw", "(I)I"⟩
abbrev cX12_drawDrive : ByteArray := prog_14_method_72_code
def yX12_drawDrive : MethodName := ⟨RX12, "drawDrive", "()V"⟩
abbrev cX12_years : ByteArray := prog_14_method_73_code
def yX12_years : MethodName := ⟨RX12, "years", "(IJ)I"⟩
abbrev cX12_status : ByteArray := prog_14_method_74_code
def yX12_status : MethodName := ⟨RX12, "status", "(I)I"⟩
abbrev cX12_undo : ByteArray := prog_14_method_75_code
def yX12_undo : MethodName := ⟨RX12, "undo", "()I"⟩
abbrev cX12_log : ByteArray := prog_14_method_76_code
def yX12_log : MethodName := ⟨RX12, "log", "(II)I"⟩
abbrev cX12_taker : ByteArray := prog_14_method_77_code
def yX12_taker : MethodName := ⟨RX12, "taker", "(I)I"⟩
abbrev cX12_tryRow : ByteArray := prog_14_method_78_code
def yX12_tryRow : MethodName := ⟨RX12, "tryRow", "(IIZ)V"⟩
abbrev cX12_bestLine : ByteArray := prog_14_method_79_code
def yX12_bestLine : MethodName := ⟨RX12, "bestLine", "(II)I"⟩
abbrev cX12_bestPeg : ByteArray := prog_14_method_80_code
def yX12_bestPeg : MethodName := ⟨RX12, "bestPeg", "(II)I"⟩
abbrev cX12_layPegs : ByteArray := prog_14_method_81_code
def yX12_layPegs : MethodName := ⟨RX12, "layPegs", "()V"⟩
abbrev cX12_unlike : ByteArray := prog_14_method_82_code
def yX12_unlike : MethodName := ⟨RX12, "unlike", "()I"⟩
abbrev cX12_tryDeals : ByteArray := prog_14_method_83_code
def yX12_tryDeals : MethodName := ⟨RX12, "tryDeals", "(III)V"⟩
abbrev cX12_dealt : ByteArray := prog_14_method_84_code
def yX12_dealt : MethodName := ⟨RX12, "dealt", "(I)I"⟩
abbrev cX12_seen : ByteArray := prog_14_method_85_code
def yX12_seen : MethodName := ⟨RX12, "seen", "(IIIZ)I"⟩
abbrev cX12_isLay : ByteArray := prog_14_method_86_code
def yX12_isLay : MethodName := ⟨RX12, "isLay", "(II)Z"⟩
abbrev cX12_lay : ByteArray := prog_14_method_87_code
def yX12_lay : MethodName := ⟨RX12, "lay", "(II)I"⟩
abbrev cX12_ask : ByteArray := prog_14_method_88_code
def yX12_ask : MethodName := ⟨RX12, "ask", "(II)I"⟩
abbrev cX12_tryClaims : ByteArray := prog_14_method_89_code
def yX12_tryClaims : MethodName := ⟨RX12, "tryClaims", "(IIII)V"⟩
abbrev cX12_claimable : ByteArray := prog_14_method_90_code
def yX12_claimable : MethodName := ⟨RX12, "claimable", "()I"⟩
abbrev cX12_claim : ByteArray := prog_14_method_91_code
def yX12_claim : MethodName := ⟨RX12, "claim", "(I)I"⟩
abbrev cX12_gameOf : ByteArray := prog_14_method_92_code
def yX12_gameOf : MethodName := ⟨RX12, "gameOf", "(IIII)I"⟩
abbrev cX12_areTwo : ByteArray := prog_14_method_93_code
def yX12_areTwo : MethodName := ⟨RX12, "areTwo", "(II)Z"⟩
abbrev cX12_game : ByteArray := prog_14_method_94_code
def yX12_game : MethodName := ⟨RX12, "game", "(IIIII)I"⟩
abbrev cX12_isRest : ByteArray := prog_14_method_95_code
def yX12_isRest : MethodName := ⟨RX12, "isRest", "(IIII)Z"⟩
abbrev cX12_rests : ByteArray := prog_14_method_96_code
def yX12_rests : MethodName := ⟨RX12, "rests", "(III)I"⟩
abbrev cX12_oddsFrom : ByteArray := prog_14_method_97_code
def yX12_oddsFrom : MethodName := ⟨RX12, "oddsFrom", "(IIII)I"⟩
abbrev cX12_odds : ByteArray := prog_14_method_98_code
def yX12_odds : MethodName := ⟨RX12, "odds", "(II)I"⟩
abbrev cX12_bagsOfAll : ByteArray := prog_14_method_99_code
def yX12_bagsOfAll : MethodName := ⟨RX12, "bagsOfAll", "()I"⟩
abbrev cX12_shares : ByteArray := prog_14_method_100_code
def yX12_shares : MethodName := ⟨RX12, "shares", "(II)I"⟩
abbrev cX12_rising : ByteArray := prog_14_method_101_code
def yX12_rising : MethodName := ⟨RX12, "rising", "(I)I"⟩
abbrev cX12_finest : ByteArray := prog_14_method_102_code
def yX12_finest : MethodName := ⟨RX12, "finest", "()I"⟩
abbrev cX12_busiest : ByteArray := prog_14_method_103_code
def yX12_busiest : MethodName := ⟨RX12, "busiest", "()I"⟩
abbrev cX12_topGun : ByteArray := prog_14_method_104_code
def yX12_topGun : MethodName := ⟨RX12, "topGun", "(I)I"⟩
abbrev cX12_gap : ByteArray := prog_14_method_105_code
def yX12_gap : MethodName := ⟨RX12, "gap", "()I"⟩
abbrev cX12_whole : ByteArray := prog_14_method_106_code
def yX12_whole : MethodName := ⟨RX12, "whole", "()I"⟩
abbrev cX12_most : ByteArray := prog_14_method_107_code
def yX12_most : MethodName := ⟨RX12, "most", "(I)I"⟩
abbrev cX12_ahead : ByteArray := prog_14_method_108_code
def yX12_ahead : MethodName := ⟨RX12, "ahead", "(I)I"⟩
abbrev cX12_image : ByteArray := prog_14_method_109_code
def yX12_image : MethodName := ⟨RX12, "image", "()I"⟩
abbrev cX12_back : ByteArray := prog_14_method_110_code
def yX12_back : MethodName := ⟨RX12, "back", "()I"⟩
abbrev cX12_count : ByteArray := prog_14_method_111_code
def yX12_count : MethodName := ⟨RX12, "count", "(I)I"⟩
def RJx145de : String := "java/io/Serializable"
def TJx145de : u_T := fun k => match k with
  | _ => ("", "", "", false)
def tyJx145de : Nat → FieldType := fun k => match k with
  | _ => .int
abbrev wsJx145de0 : List Cond := u_ws RJx145de TJx145de 0
theorem nmJx145de : ∀ a, a < 0 → ∀ b, b < 0 → a ≠ b → (TJx145de a).2.1 ≠ (TJx145de b).2.1 := by decide +kernel
theorem tyJx145de_ok : ∀ k, k < 0 → parseFieldDescriptor (TJx145de k).2.2.1 = some (tyJx145de k) := by decide +kernel
def RJx9f9b0 : String := "java/lang/CharSequence"
def TJx9f9b0 : u_T := fun k => match k with
  | _ => ("", "", "", false)
def tyJx9f9b0 : Nat → FieldType := fun k => match k with
  | _ => .int
abbrev wsJx9f9b00 : List Cond := u_ws RJx9f9b0 TJx9f9b0 0
theorem nmJx9f9b0 : ∀ a, a < 0 → ∀ b, b < 0 → a ≠ b → (TJx9f9b0 a).2.1 ≠ (TJx9f9b0 b).2.1 := by decide +kernel
theorem tyJx9f9b0_ok : ∀ k, k < 0 → parseFieldDescriptor (TJx9f9b0 k).2.2.1 = some (tyJx9f9b0 k) := by decide +kernel
def RJ11 : String := "java/lang/Character"
def TJ11 : u_T := fun k => match k with
  | _ => ("", "", "", false)
def tyJ11 : Nat → FieldType := fun k => match k with
  | _ => .int
abbrev wsJ110 : List Cond := u_ws RJ11 TJ11 0
theorem nmJ11 : ∀ a, a < 0 → ∀ b, b < 0 → a ≠ b → (TJ11 a).2.1 ≠ (TJ11 b).2.1 := by decide +kernel
theorem tyJ11_ok : ∀ k, k < 0 → parseFieldDescriptor (TJ11 k).2.2.1 = some (tyJ11 k) := by decide +kernel
abbrev cJ11_isValidCodePoint_9a6ad : ByteArray := prog_17_method_11_code
def yJ11_isValidCodePoint_9a6ad : MethodName := ⟨RJ11, "isValidCodePoint", "(I)Z"⟩
abbrev cJ11_highSurrogate_5068e : ByteArray := prog_17_method_28_code
def yJ11_highSurrogate_5068e : MethodName := ⟨RJ11, "highSurrogate", "(I)C"⟩
abbrev cJ11_lowSurrogate_5068e : ByteArray := prog_17_method_29_code
def yJ11_lowSurrogate_5068e : MethodName := ⟨RJ11, "lowSurrogate", "(I)C"⟩
def RJx8e188 : String := "java/lang/Cloneable"
def TJx8e188 : u_T := fun k => match k with
  | _ => ("", "", "", false)
def tyJx8e188 : Nat → FieldType := fun k => match k with
  | _ => .int
abbrev wsJx8e1880 : List Cond := u_ws RJx8e188 TJx8e188 0
theorem nmJx8e188 : ∀ a, a < 0 → ∀ b, b < 0 → a ≠ b → (TJx8e188 a).2.1 ≠ (TJx8e188 b).2.1 := by decide +kernel
theorem tyJx8e188_ok : ∀ k, k < 0 → parseFieldDescriptor (TJx8e188 k).2.2.1 = some (tyJx8e188 k) := by decide +kernel
def RJxb160c : String := "java/lang/Comparable"
def TJxb160c : u_T := fun k => match k with
  | _ => ("", "", "", false)
def tyJxb160c : Nat → FieldType := fun k => match k with
  | _ => .int
abbrev wsJxb160c0 : List Cond := u_ws RJxb160c TJxb160c 0
theorem nmJxb160c : ∀ a, a < 0 → ∀ b, b < 0 → a ≠ b → (TJxb160c a).2.1 ≠ (TJxb160c b).2.1 := by decide +kernel
theorem tyJxb160c_ok : ∀ k, k < 0 → parseFieldDescriptor (TJxb160c k).2.2.1 = some (tyJxb160c k) := by decide +kernel
def RJ6 : String := "java/lang/Integer"
def TJ6 : u_T := fun k => match k with
  | _ => ("", "", "", false)
def tyJ6 : Nat → FieldType := fun k => match k with
  | _ => .int
abbrev wsJ60 : List Cond := u_ws RJ6 TJ6 0
theorem nmJ6 : ∀ a, a < 0 → ∀ b, b < 0 → a ≠ b → (TJ6 a).2.1 ≠ (TJ6 b).2.1 := by decide +kernel
theorem tyJ6_ok : ∀ k, k < 0 → parseFieldDescriptor (TJ6 k).2.2.1 = some (tyJ6 k) := by decide +kernel
abbrev cJ6_bitCount_0f7a4 : ByteArray := prog_21_method_49_code
def yJ6_bitCount_0f7a4 : MethodName := ⟨RJ6, "bitCount", "(I)I"⟩
def RJ9 : String := "java/lang/Math"
def TJ9 : u_T := fun k => match k with
  | _ => ("", "", "", false)
def tyJ9 : Nat → FieldType := fun k => match k with
  | _ => .int
abbrev wsJ90 : List Cond := u_ws RJ9 TJ9 0
theorem nmJ9 : ∀ a, a < 0 → ∀ b, b < 0 → a ≠ b → (TJ9 a).2.1 ≠ (TJ9 b).2.1 := by decide +kernel
theorem tyJ9_ok : ∀ k, k < 0 → parseFieldDescriptor (TJ9 k).2.2.1 = some (tyJ9 k) := by decide +kernel
abbrev cJ9_floorMod_7cf53 : ByteArray := prog_22_method_50_code
def yJ9_floorMod_7cf53 : MethodName := ⟨RJ9, "floorMod", "(II)I"⟩
abbrev cJ9_abs_0f7a4 : ByteArray := prog_22_method_59_code
def yJ9_abs_0f7a4 : MethodName := ⟨RJ9, "abs", "(I)I"⟩
abbrev cJ9_max_7cf53 : ByteArray := prog_22_method_65_code
def yJ9_max_7cf53 : MethodName := ⟨RJ9, "max", "(II)I"⟩
abbrev cJ9_max_f86c9 : ByteArray := prog_22_method_66_code
def yJ9_max_f86c9 : MethodName := ⟨RJ9, "max", "(JJ)J"⟩
abbrev cJ9_min_7cf53 : ByteArray := prog_22_method_69_code
def yJ9_min_7cf53 : MethodName := ⟨RJ9, "min", "(II)I"⟩
abbrev cJ9_min_f86c9 : ByteArray := prog_22_method_70_code
def yJ9_min_f86c9 : MethodName := ⟨RJ9, "min", "(JJ)J"⟩
def RJ0 : String := "java/lang/String"
def TJ0 : u_T := fun k => match k with
  | _ => ("", "", "", false)
def tyJ0 : Nat → FieldType := fun k => match k with
  | _ => .int
abbrev wsJ00 : List Cond := u_ws RJ0 TJ0 0
theorem nmJ0 : ∀ a, a < 0 → ∀ b, b < 0 → a ≠ b → (TJ0 a).2.1 ≠ (TJ0 b).2.1 := by decide +kernel
theorem tyJ0_ok : ∀ k, k < 0 → parseFieldDescriptor (TJ0 k).2.2.1 = some (tyJ0 k) := by decide +kernel
abbrev cJ0_length_8abf5 : ByteArray := prog_24_method_54_code
def yJ0_length_8abf5 : MethodName := ⟨RJ0, "length", "()I"⟩
abbrev cJ0_indexOf_0f7a4 : ByteArray := prog_24_method_79_code
def yJ0_indexOf_0f7a4 : MethodName := ⟨RJ0, "indexOf", "(I)I"⟩
abbrev cJ0_indexOf_7cf53 : ByteArray := prog_24_method_80_code
def yJ0_indexOf_7cf53 : MethodName := ⟨RJ0, "indexOf", "(II)I"⟩
abbrev cJ0_coder_7d493 : ByteArray := prog_24_method_152_code
def yJ0_coder_7d493 : MethodName := ⟨RJ0, "coder", "()B"⟩
abbrev cJ0_isLatin1_aae02 : ByteArray := prog_24_method_154_code
def yJ0_isLatin1_aae02 : MethodName := ⟨RJ0, "isLatin1", "()Z"⟩
abbrev cJ0_checkBoundsBeginEnd_23922 : ByteArray := prog_24_method_158_code
def yJ0_checkBoundsBeginEnd_23922 : MethodName := ⟨RJ0, "checkBoundsBeginEnd", "(III)V"⟩
def RJ1 : String := "java/lang/StringLatin1"
def TJ1 : u_T := fun k => match k with
  | _ => ("", "", "", false)
def tyJ1 : Nat → FieldType := fun k => match k with
  | _ => .int
abbrev wsJ10 : List Cond := u_ws RJ1 TJ1 0
theorem nmJ1 : ∀ a, a < 0 → ∀ b, b < 0 → a ≠ b → (TJ1 a).2.1 ≠ (TJ1 b).2.1 := by decide +kernel
theorem tyJ1_ok : ∀ k, k < 0 → parseFieldDescriptor (TJ1 k).2.2.1 = some (tyJ1 k) := by decide +kernel
abbrev cJ1_canEncode_9a6ad : ByteArray := prog_25_method_4_code
def yJ1_canEncode_9a6ad : MethodName := ⟨RJ1, "canEncode", "(I)Z"⟩
abbrev cJ1_indexOf_4cfef : ByteArray := prog_25_method_22_code
def yJ1_indexOf_4cfef : MethodName := ⟨RJ1, "indexOf", "([BIII)I"⟩
abbrev cJ1_indexOfChar_4cfef : ByteArray := prog_25_method_23_code
def yJ1_indexOfChar_4cfef : MethodName := ⟨RJ1, "indexOfChar", "([BIII)I"⟩
def RJ2 : String := "java/lang/StringUTF16"
def TJ2 : u_T := fun k => match k with
  | _ => ("", "", "", false)
def tyJ2 : Nat → FieldType := fun k => match k with
  | _ => .int
abbrev wsJ20 : List Cond := u_ws RJ2 TJ2 0
theorem nmJ2 : ∀ a, a < 0 → ∀ b, b < 0 → a ≠ b → (TJ2 a).2.1 ≠ (TJ2 b).2.1 := by decide +kernel
theorem tyJ2_ok : ∀ k, k < 0 → parseFieldDescriptor (TJ2 k).2.2.1 = some (tyJ2 k) := by decide +kernel
abbrev cJ2_getChar_3b067 : ByteArray := prog_26_method_5_code
def yJ2_getChar_3b067 : MethodName := ⟨RJ2, "getChar", "([BI)C"⟩
abbrev cJ2_length_9d52b : ByteArray := prog_26_method_6_code
def yJ2_length_9d52b : MethodName := ⟨RJ2, "length", "([B)I"⟩
abbrev cJ2_indexOf_4cfef : ByteArray := prog_26_method_40_code
def yJ2_indexOf_4cfef : MethodName := ⟨RJ2, "indexOf", "([BIII)I"⟩
abbrev cJ2_indexOfChar_4cfef : ByteArray := prog_26_method_47_code
def yJ2_indexOfChar_4cfef : MethodName := ⟨RJ2, "indexOfChar", "([BIII)I"⟩
abbrev cJ2_indexOfCharUnsafe_4cfef : ByteArray := prog_26_method_48_code
def yJ2_indexOfCharUnsafe_4cfef : MethodName := ⟨RJ2, "indexOfCharUnsafe", "([BIII)I"⟩
abbrev cJ2_indexOfSupplementary_4cfef : ByteArray := prog_26_method_49_code
def yJ2_indexOfSupplementary_4cfef : MethodName := ⟨RJ2, "indexOfSupplementary", "([BIII)I"⟩
abbrev cJ2_checkBoundsBeginEnd_d044e : ByteArray := prog_26_method_93_code
def yJ2_checkBoundsBeginEnd_d044e : MethodName := ⟨RJ2, "checkBoundsBeginEnd", "(II[B)V"⟩
def RJ10 : String := "java/lang/System"
def TJ10 : u_T := fun k => match k with
  | _ => ("", "", "", false)
def tyJ10 : Nat → FieldType := fun k => match k with
  | _ => .int
abbrev wsJ100 : List Cond := u_ws RJ10 TJ10 0
theorem nmJ10 : ∀ a, a < 0 → ∀ b, b < 0 → a ≠ b → (TJ10 a).2.1 ≠ (TJ10 b).2.1 := by decide +kernel
theorem tyJ10_ok : ∀ k, k < 0 → parseFieldDescriptor (TJ10 k).2.2.1 = some (tyJ10 k) := by decide +kernel
def RJxfd54e : String := "java/lang/constant/Constable"
def TJxfd54e : u_T := fun k => match k with
  | _ => ("", "", "", false)
def tyJxfd54e : Nat → FieldType := fun k => match k with
  | _ => .int
abbrev wsJxfd54e0 : List Cond := u_ws RJxfd54e TJxfd54e 0
theorem nmJxfd54e : ∀ a, a < 0 → ∀ b, b < 0 → a ≠ b → (TJxfd54e a).2.1 ≠ (TJxfd54e b).2.1 := by decide +kernel
theorem tyJxfd54e_ok : ∀ k, k < 0 → parseFieldDescriptor (TJxfd54e k).2.2.1 = some (tyJxfd54e k) := by decide +kernel
def RJx3cf43 : String := "java/lang/constant/ConstantDesc"
def TJx3cf43 : u_T := fun k => match k with
  | _ => ("", "", "", false)
def tyJx3cf43 : Nat → FieldType := fun k => match k with
  | _ => .int
abbrev wsJx3cf430 : List Cond := u_ws RJx3cf43 TJx3cf43 0
theorem nmJx3cf43 : ∀ a, a < 0 → ∀ b, b < 0 → a ≠ b → (TJx3cf43 a).2.1 ≠ (TJx3cf43 b).2.1 := by decide +kernel
theorem tyJx3cf43_ok : ∀ k, k < 0 → parseFieldDescriptor (TJx3cf43 k).2.2.1 = some (tyJx3cf43 k) := by decide +kernel
def RJ7 : String := "java/util/Arrays"
def TJ7 : u_T := fun k => match k with
  | _ => ("", "", "", false)
def tyJ7 : Nat → FieldType := fun k => match k with
  | _ => .int
abbrev wsJ70 : List Cond := u_ws RJ7 TJ7 0
theorem nmJ7 : ∀ a, a < 0 → ∀ b, b < 0 → a ≠ b → (TJ7 a).2.1 ≠ (TJ7 b).2.1 := by decide +kernel
theorem tyJ7_ok : ∀ k, k < 0 → parseFieldDescriptor (TJ7 k).2.2.1 = some (tyJ7 k) := by decide +kernel
abbrev cJ7_fill_53178 : ByteArray := prog_31_method_103_code
def yJ7_fill_53178 : MethodName := ⟨RJ7, "fill", "([II)V"⟩
abbrev cJ7_copyOf_59c91 : ByteArray := prog_31_method_123_code
def yJ7_copyOf_59c91 : MethodName := ⟨RJ7, "copyOf", "([II)[I"⟩
def RJ3 : String := "jdk/internal/util/Preconditions"
def TJ3 : u_T := fun k => match k with
  | _ => ("", "", "", false)
def tyJ3 : Nat → FieldType := fun k => match k with
  | _ => .int
abbrev wsJ30 : List Cond := u_ws RJ3 TJ3 0
theorem nmJ3 : ∀ a, a < 0 → ∀ b, b < 0 → a ≠ b → (TJ3 a).2.1 ≠ (TJ3 b).2.1 := by decide +kernel
theorem tyJ3_ok : ∀ k, k < 0 → parseFieldDescriptor (TJ3 k).2.2.1 = some (tyJ3 k) := by decide +kernel
abbrev cJ3_checkFromToIndex_8c36e : ByteArray := prog_33_method_12_code
def yJ3_checkFromToIndex_8c36e : MethodName := ⟨RJ3, "checkFromToIndex", "(IIILjava/util/function/BiFunction;)I"⟩
def RL : String := "BeatenAfternoonLaw"
abbrev cL_thing : ByteArray := method_3_code
def yL_thing : MethodName := ⟨RL, "thing", "(LBeatenAfternoon;II[J)I"⟩
abbrev cL_law : ByteArray := code
def yL_law : MethodName := ⟨RL, "law", "([I)Z"⟩
