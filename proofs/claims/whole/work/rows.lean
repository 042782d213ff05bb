section
-- ===== PART A: goes FIRST, ahead of the names: the tables' words, and 'selects' of the private methods out of them =====
/-- a private method of a class that the tables say can be made, by its rows of tables_1 -/
def lw_okq (q : MethodName × Nat) : Prop := (q.1.cls ≠ "java/lang/invoke/MethodHandle" ∧ q.1.cls ≠ "java/lang/invoke/VarHandle") ∧ Cond.instantiable q.1.cls q.2 ∈ tables_1 ∧ Cond.privateMethod q.1 ∈ tables_1 ∧ Cond.instanceMethod q.1 ∈ tables_1
theorem lw_p0 : lw_okq (⟨"EyeStage", "keepState", "()V"⟩, 7) := ⟨⟨by decide +kernel, by decide +kernel⟩, List.mem_of_getElem? (i := 24) (by decide +kernel), List.mem_of_getElem? (i := 321) (by decide +kernel), List.mem_of_getElem? (i := 322) (by decide +kernel)⟩
theorem lw_p1 : lw_okq (⟨"EyeStage$History", "dropOldest", "()V"⟩, 2) := ⟨⟨by decide +kernel, by decide +kernel⟩, List.mem_of_getElem? (i := 256) (by decide +kernel), List.mem_of_getElem? (i := 329) (by decide +kernel), List.mem_of_getElem? (i := 330) (by decide +kernel)⟩
theorem lw_p2 : lw_okq (⟨"EyeStage", "freshView", "()LEyeStage$View;"⟩, 7) := ⟨⟨by decide +kernel, by decide +kernel⟩, List.mem_of_getElem? (i := 24) (by decide +kernel), List.mem_of_getElem? (i := 365) (by decide +kernel), List.mem_of_getElem? (i := 366) (by decide +kernel)⟩
theorem lw_p3 : lw_okq (⟨"EyeStage$Placing", "placeNodes", "()V"⟩, 11) := ⟨⟨by decide +kernel, by decide +kernel⟩, List.mem_of_getElem? (i := 38) (by decide +kernel), List.mem_of_getElem? (i := 377) (by decide +kernel), List.mem_of_getElem? (i := 378) (by decide +kernel)⟩
theorem lw_p4 : lw_okq (⟨"EyeStage$Placing", "putInOrder", "(I)V"⟩, 11) := ⟨⟨by decide +kernel, by decide +kernel⟩, List.mem_of_getElem? (i := 38) (by decide +kernel), List.mem_of_getElem? (i := 406) (by decide +kernel), List.mem_of_getElem? (i := 407) (by decide +kernel)⟩
theorem lw_p5 : lw_okq (⟨"EyeStage$Placing", "isNearer", "(II)Z"⟩, 11) := ⟨⟨by decide +kernel, by decide +kernel⟩, List.mem_of_getElem? (i := 38) (by decide +kernel), List.mem_of_getElem? (i := 410) (by decide +kernel), List.mem_of_getElem? (i := 411) (by decide +kernel)⟩
theorem lw_p6 : lw_okq (⟨"EyeStage$View", "windowShift", "(Z)I"⟩, 10) := ⟨⟨by decide +kernel, by decide +kernel⟩, List.mem_of_getElem? (i := 32) (by decide +kernel), List.mem_of_getElem? (i := 418) (by decide +kernel), List.mem_of_getElem? (i := 419) (by decide +kernel)⟩
theorem lw_p7 : lw_okq (⟨"EyeStage$View", "greatestCut", "(ZI)I"⟩, 10) := ⟨⟨by decide +kernel, by decide +kernel⟩, List.mem_of_getElem? (i := 32) (by decide +kernel), List.mem_of_getElem? (i := 422) (by decide +kernel), List.mem_of_getElem? (i := 423) (by decide +kernel)⟩
theorem lw_p8 : lw_okq (⟨"EyeStage$View", "isCut", "(ZII)Z"⟩, 10) := ⟨⟨by decide +kernel, by decide +kernel⟩, List.mem_of_getElem? (i := 32) (by decide +kernel), List.mem_of_getElem? (i := 426) (by decide +kernel), List.mem_of_getElem? (i := 427) (by decide +kernel)⟩
theorem lw_p9 : lw_okq (⟨"EyeStage$View", "findTitle", "()V"⟩, 10) := ⟨⟨by decide +kernel, by decide +kernel⟩, List.mem_of_getElem? (i := 32) (by decide +kernel), List.mem_of_getElem? (i := 437) (by decide +kernel), List.mem_of_getElem? (i := 438) (by decide +kernel)⟩
theorem lw_p10 : lw_okq (⟨"EyeStage$View", "titleCanStand", "(ZII)Z"⟩, 10) := ⟨⟨by decide +kernel, by decide +kernel⟩, List.mem_of_getElem? (i := 32) (by decide +kernel), List.mem_of_getElem? (i := 441) (by decide +kernel), List.mem_of_getElem? (i := 442) (by decide +kernel)⟩
theorem lw_p11 : lw_okq (⟨"EyeStage$View", "firstOpen", "(Z)I"⟩, 10) := ⟨⟨by decide +kernel, by decide +kernel⟩, List.mem_of_getElem? (i := 32) (by decide +kernel), List.mem_of_getElem? (i := 446) (by decide +kernel), List.mem_of_getElem? (i := 447) (by decide +kernel)⟩
theorem lw_p12 : lw_okq (⟨"EyeStage$View", "endOfOpen", "(Z)I"⟩, 10) := ⟨⟨by decide +kernel, by decide +kernel⟩, List.mem_of_getElem? (i := 32) (by decide +kernel), List.mem_of_getElem? (i := 450) (by decide +kernel), List.mem_of_getElem? (i := 451) (by decide +kernel)⟩
theorem lw_p13 : lw_okq (⟨"EyeStage$Script", "skipSpaces", "()V"⟩, 5) := ⟨⟨by decide +kernel, by decide +kernel⟩, List.mem_of_getElem? (i := 272) (by decide +kernel), List.mem_of_getElem? (i := 478) (by decide +kernel), List.mem_of_getElem? (i := 479) (by decide +kernel)⟩
theorem lw_p14 : lw_okq (⟨"EyeStage$Script", "byteAt", "(I)I"⟩, 5) := ⟨⟨by decide +kernel, by decide +kernel⟩, List.mem_of_getElem? (i := 272) (by decide +kernel), List.mem_of_getElem? (i := 482) (by decide +kernel), List.mem_of_getElem? (i := 483) (by decide +kernel)⟩
theorem lw_p15 : lw_okq (⟨"EyeStage$Script", "readCommand", "()Z"⟩, 5) := ⟨⟨by decide +kernel, by decide +kernel⟩, List.mem_of_getElem? (i := 272) (by decide +kernel), List.mem_of_getElem? (i := 486) (by decide +kernel), List.mem_of_getElem? (i := 487) (by decide +kernel)⟩
def lw_privs_1 : List (MethodName × Nat) := [(⟨"EyeStage", "keepState", "()V"⟩, 7), (⟨"EyeStage$History", "dropOldest", "()V"⟩, 2), (⟨"EyeStage", "freshView", "()LEyeStage$View;"⟩, 7), (⟨"EyeStage$Placing", "placeNodes", "()V"⟩, 11), (⟨"EyeStage$Placing", "putInOrder", "(I)V"⟩, 11), (⟨"EyeStage$Placing", "isNearer", "(II)Z"⟩, 11), (⟨"EyeStage$View", "windowShift", "(Z)I"⟩, 10), (⟨"EyeStage$View", "greatestCut", "(ZI)I"⟩, 10), (⟨"EyeStage$View", "isCut", "(ZII)Z"⟩, 10), (⟨"EyeStage$View", "findTitle", "()V"⟩, 10), (⟨"EyeStage$View", "titleCanStand", "(ZII)Z"⟩, 10), (⟨"EyeStage$View", "firstOpen", "(Z)I"⟩, 10), (⟨"EyeStage$View", "endOfOpen", "(Z)I"⟩, 10), (⟨"EyeStage$Script", "skipSpaces", "()V"⟩, 5), (⟨"EyeStage$Script", "byteAt", "(I)I"⟩, 5), (⟨"EyeStage$Script", "readCommand", "()Z"⟩, 5)]
theorem lw_r1 : ∀ q ∈ lw_privs_1, lw_okq q := List.forall_mem_cons.mpr ⟨lw_p0, List.forall_mem_cons.mpr ⟨lw_p1, List.forall_mem_cons.mpr ⟨lw_p2, List.forall_mem_cons.mpr ⟨lw_p3, List.forall_mem_cons.mpr ⟨lw_p4, List.forall_mem_cons.mpr ⟨lw_p5, List.forall_mem_cons.mpr ⟨lw_p6, List.forall_mem_cons.mpr ⟨lw_p7, List.forall_mem_cons.mpr ⟨lw_p8, List.forall_mem_cons.mpr ⟨lw_p9, List.forall_mem_cons.mpr ⟨lw_p10, List.forall_mem_cons.mpr ⟨lw_p11, List.forall_mem_cons.mpr ⟨lw_p12, List.forall_mem_cons.mpr ⟨lw_p13, List.forall_mem_cons.mpr ⟨lw_p14, List.forall_mem_cons.mpr ⟨lw_p15, fun _ h => absurd h List.not_mem_nil⟩⟩⟩⟩⟩⟩⟩⟩⟩⟩⟩⟩⟩⟩⟩⟩
theorem lw_p16 : lw_okq (⟨"EyeStage$Script", "wordBetween", "(II)LEyeStage$Word;"⟩, 5) := ⟨⟨by decide +kernel, by decide +kernel⟩, List.mem_of_getElem? (i := 272) (by decide +kernel), List.mem_of_getElem? (i := 490) (by decide +kernel), List.mem_of_getElem? (i := 491) (by decide +kernel)⟩
theorem lw_p17 : lw_okq (⟨"EyeStage$Script", "isWritten", "(Ljava/lang/String;II)Z"⟩, 5) := ⟨⟨by decide +kernel, by decide +kernel⟩, List.mem_of_getElem? (i := 272) (by decide +kernel), List.mem_of_getElem? (i := 496) (by decide +kernel), List.mem_of_getElem? (i := 497) (by decide +kernel)⟩
theorem lw_p18 : lw_okq (⟨"EyeStage$Script", "readNumber", "(I)Z"⟩, 5) := ⟨⟨by decide +kernel, by decide +kernel⟩, List.mem_of_getElem? (i := 272) (by decide +kernel), List.mem_of_getElem? (i := 548) (by decide +kernel), List.mem_of_getElem? (i := 549) (by decide +kernel)⟩
theorem lw_p19 : lw_okq (⟨"EyeStage$Script", "carryOut", "(LEyeStage$Stage;)Z"⟩, 5) := ⟨⟨by decide +kernel, by decide +kernel⟩, List.mem_of_getElem? (i := 272) (by decide +kernel), List.mem_of_getElem? (i := 559) (by decide +kernel), List.mem_of_getElem? (i := 560) (by decide +kernel)⟩
theorem lw_p20 : lw_okq (⟨"EyeStage$Script", "faultOn", "(LEyeStage$Stage;LEyeStage$Word;)I"⟩, 5) := ⟨⟨by decide +kernel, by decide +kernel⟩, List.mem_of_getElem? (i := 272) (by decide +kernel), List.mem_of_getElem? (i := 563) (by decide +kernel), List.mem_of_getElem? (i := 564) (by decide +kernel)⟩
theorem lw_p21 : lw_okq (⟨"EyeStage$Tree", "aroundChildOf", "(I)I"⟩, 10) := ⟨⟨by decide +kernel, by decide +kernel⟩, List.mem_of_getElem? (i := 50) (by decide +kernel), List.mem_of_getElem? (i := 592) (by decide +kernel), List.mem_of_getElem? (i := 593) (by decide +kernel)⟩
theorem lw_p22 : lw_okq (⟨"EyeStage$Script", "applyTo", "(LEyeStage$Stage;LEyeStage$Word;)V"⟩, 5) := ⟨⟨by decide +kernel, by decide +kernel⟩, List.mem_of_getElem? (i := 272) (by decide +kernel), List.mem_of_getElem? (i := 638) (by decide +kernel), List.mem_of_getElem? (i := 639) (by decide +kernel)⟩
theorem lw_p23 : lw_okq (⟨"EyeStage$Tree", "shiftDown", "(II)V"⟩, 10) := ⟨⟨by decide +kernel, by decide +kernel⟩, List.mem_of_getElem? (i := 50) (by decide +kernel), List.mem_of_getElem? (i := 677) (by decide +kernel), List.mem_of_getElem? (i := 678) (by decide +kernel)⟩
theorem lw_p24 : lw_okq (⟨"EyeStage$View", "titleColumn", "(Z)I"⟩, 10) := ⟨⟨by decide +kernel, by decide +kernel⟩, List.mem_of_getElem? (i := 32) (by decide +kernel), List.mem_of_getElem? (i := 739) (by decide +kernel), List.mem_of_getElem? (i := 740) (by decide +kernel)⟩
theorem lw_p25 : lw_okq (⟨"EyeStage$View", "holdRow", "(I)Z"⟩, 10) := ⟨⟨by decide +kernel, by decide +kernel⟩, List.mem_of_getElem? (i := 32) (by decide +kernel), List.mem_of_getElem? (i := 747) (by decide +kernel), List.mem_of_getElem? (i := 748) (by decide +kernel)⟩
theorem lw_p26 : lw_okq (⟨"EyeStage$View", "isLikeAbove", "(I)Z"⟩, 10) := ⟨⟨by decide +kernel, by decide +kernel⟩, List.mem_of_getElem? (i := 32) (by decide +kernel), List.mem_of_getElem? (i := 751) (by decide +kernel), List.mem_of_getElem? (i := 752) (by decide +kernel)⟩
theorem lw_p27 : lw_okq (⟨"EyeStage$View", "paintRow", "(ZI[I)V"⟩, 10) := ⟨⟨by decide +kernel, by decide +kernel⟩, List.mem_of_getElem? (i := 32) (by decide +kernel), List.mem_of_getElem? (i := 755) (by decide +kernel), List.mem_of_getElem? (i := 756) (by decide +kernel)⟩
theorem lw_p28 : lw_okq (⟨"EyeStage$View", "fill", "([IIII)V"⟩, 10) := ⟨⟨by decide +kernel, by decide +kernel⟩, List.mem_of_getElem? (i := 32) (by decide +kernel), List.mem_of_getElem? (i := 759) (by decide +kernel), List.mem_of_getElem? (i := 760) (by decide +kernel)⟩
theorem lw_p29 : lw_okq (⟨"java/lang/Throwable", "fillInStackTrace", "(I)Ljava/lang/Throwable;"⟩, 6) := ⟨⟨by decide +kernel, by decide +kernel⟩, List.mem_of_getElem? (i := 820) (by decide +kernel), List.mem_of_getElem? (i := 818) (by decide +kernel), List.mem_of_getElem? (i := 819) (by decide +kernel)⟩
theorem lw_p30 : lw_okq (⟨"EyeStage$View", "ghostOf", "(II)I"⟩, 10) := ⟨⟨by decide +kernel, by decide +kernel⟩, List.mem_of_getElem? (i := 32) (by decide +kernel), List.mem_of_getElem? (i := 1052) (by decide +kernel), List.mem_of_getElem? (i := 1053) (by decide +kernel)⟩
theorem lw_p31 : lw_okq (⟨"EyeStage$View", "countInHeldRow", "(I)I"⟩, 10) := ⟨⟨by decide +kernel, by decide +kernel⟩, List.mem_of_getElem? (i := 32) (by decide +kernel), List.mem_of_getElem? (i := 1070) (by decide +kernel), List.mem_of_getElem? (i := 1071) (by decide +kernel)⟩
def lw_privs_2 : List (MethodName × Nat) := [(⟨"EyeStage$Script", "wordBetween", "(II)LEyeStage$Word;"⟩, 5), (⟨"EyeStage$Script", "isWritten", "(Ljava/lang/String;II)Z"⟩, 5), (⟨"EyeStage$Script", "readNumber", "(I)Z"⟩, 5), (⟨"EyeStage$Script", "carryOut", "(LEyeStage$Stage;)Z"⟩, 5), (⟨"EyeStage$Script", "faultOn", "(LEyeStage$Stage;LEyeStage$Word;)I"⟩, 5), (⟨"EyeStage$Tree", "aroundChildOf", "(I)I"⟩, 10), (⟨"EyeStage$Script", "applyTo", "(LEyeStage$Stage;LEyeStage$Word;)V"⟩, 5), (⟨"EyeStage$Tree", "shiftDown", "(II)V"⟩, 10), (⟨"EyeStage$View", "titleColumn", "(Z)I"⟩, 10), (⟨"EyeStage$View", "holdRow", "(I)Z"⟩, 10), (⟨"EyeStage$View", "isLikeAbove", "(I)Z"⟩, 10), (⟨"EyeStage$View", "paintRow", "(ZI[I)V"⟩, 10), (⟨"EyeStage$View", "fill", "([IIII)V"⟩, 10), (⟨"java/lang/Throwable", "fillInStackTrace", "(I)Ljava/lang/Throwable;"⟩, 6), (⟨"EyeStage$View", "ghostOf", "(II)I"⟩, 10), (⟨"EyeStage$View", "countInHeldRow", "(I)I"⟩, 10)]
theorem lw_r2 : ∀ q ∈ lw_privs_2, lw_okq q := List.forall_mem_cons.mpr ⟨lw_p16, List.forall_mem_cons.mpr ⟨lw_p17, List.forall_mem_cons.mpr ⟨lw_p18, List.forall_mem_cons.mpr ⟨lw_p19, List.forall_mem_cons.mpr ⟨lw_p20, List.forall_mem_cons.mpr ⟨lw_p21, List.forall_mem_cons.mpr ⟨lw_p22, List.forall_mem_cons.mpr ⟨lw_p23, List.forall_mem_cons.mpr ⟨lw_p24, List.forall_mem_cons.mpr ⟨lw_p25, List.forall_mem_cons.mpr ⟨lw_p26, List.forall_mem_cons.mpr ⟨lw_p27, List.forall_mem_cons.mpr ⟨lw_p28, List.forall_mem_cons.mpr ⟨lw_p29, List.forall_mem_cons.mpr ⟨lw_p30, List.forall_mem_cons.mpr ⟨lw_p31, fun _ h => absurd h List.not_mem_nil⟩⟩⟩⟩⟩⟩⟩⟩⟩⟩⟩⟩⟩⟩⟩⟩
theorem lw_p32 : lw_okq (⟨"EyeStageModel", "anew", "(II)V"⟩, 24) := ⟨⟨by decide +kernel, by decide +kernel⟩, List.mem_of_getElem? (i := 1134) (by decide +kernel), List.mem_of_getElem? (i := 1140) (by decide +kernel), List.mem_of_getElem? (i := 1141) (by decide +kernel)⟩
theorem lw_p33 : lw_okq (⟨"EyeStageModel", "keep", "()V"⟩, 24) := ⟨⟨by decide +kernel, by decide +kernel⟩, List.mem_of_getElem? (i := 1134) (by decide +kernel), List.mem_of_getElem? (i := 1231) (by decide +kernel), List.mem_of_getElem? (i := 1232) (by decide +kernel)⟩
theorem lw_p34 : lw_okq (⟨"EyeStageModel", "begins", "(II)I"⟩, 24) := ⟨⟨by decide +kernel, by decide +kernel⟩, List.mem_of_getElem? (i := 1134) (by decide +kernel), List.mem_of_getElem? (i := 1238) (by decide +kernel), List.mem_of_getElem? (i := 1239) (by decide +kernel)⟩
theorem lw_p35 : lw_okq (⟨"EyeStageModel", "notAdd", "(IIII)I"⟩, 24) := ⟨⟨by decide +kernel, by decide +kernel⟩, List.mem_of_getElem? (i := 1134) (by decide +kernel), List.mem_of_getElem? (i := 1246) (by decide +kernel), List.mem_of_getElem? (i := 1247) (by decide +kernel)⟩
theorem lw_p36 : lw_okq (⟨"EyeStageModel", "isNode", "(I)Z"⟩, 24) := ⟨⟨by decide +kernel, by decide +kernel⟩, List.mem_of_getElem? (i := 1134) (by decide +kernel), List.mem_of_getElem? (i := 1250) (by decide +kernel), List.mem_of_getElem? (i := 1251) (by decide +kernel)⟩
theorem lw_p37 : lw_okq (⟨"EyeStageModel", "isBox", "(I)Z"⟩, 24) := ⟨⟨by decide +kernel, by decide +kernel⟩, List.mem_of_getElem? (i := 1134) (by decide +kernel), List.mem_of_getElem? (i := 1254) (by decide +kernel), List.mem_of_getElem? (i := 1255) (by decide +kernel)⟩
theorem lw_p38 : lw_okq (⟨"EyeStageModel", "of", "(II)I"⟩, 24) := ⟨⟨by decide +kernel, by decide +kernel⟩, List.mem_of_getElem? (i := 1134) (by decide +kernel), List.mem_of_getElem? (i := 1258) (by decide +kernel), List.mem_of_getElem? (i := 1259) (by decide +kernel)⟩
theorem lw_p39 : lw_okq (⟨"EyeStageModel", "groupsAround", "(I)I"⟩, 24) := ⟨⟨by decide +kernel, by decide +kernel⟩, List.mem_of_getElem? (i := 1134) (by decide +kernel), List.mem_of_getElem? (i := 1265) (by decide +kernel), List.mem_of_getElem? (i := 1266) (by decide +kernel)⟩
theorem lw_p40 : lw_okq (⟨"EyeStageModel", "adds", "(IIIIII)I"⟩, 24) := ⟨⟨by decide +kernel, by decide +kernel⟩, List.mem_of_getElem? (i := 1134) (by decide +kernel), List.mem_of_getElem? (i := 1269) (by decide +kernel), List.mem_of_getElem? (i := 1270) (by decide +kernel)⟩
theorem lw_p41 : lw_okq (⟨"EyeStageModel", "notBox", "(IIIIII)I"⟩, 24) := ⟨⟨by decide +kernel, by decide +kernel⟩, List.mem_of_getElem? (i := 1134) (by decide +kernel), List.mem_of_getElem? (i := 1277) (by decide +kernel), List.mem_of_getElem? (i := 1278) (by decide +kernel)⟩
theorem lw_p42 : lw_okq (⟨"EyeStageModel", "notMove", "(IIII)I"⟩, 24) := ⟨⟨by decide +kernel, by decide +kernel⟩, List.mem_of_getElem? (i := 1134) (by decide +kernel), List.mem_of_getElem? (i := 1285) (by decide +kernel), List.mem_of_getElem? (i := 1286) (by decide +kernel)⟩
theorem lw_p43 : lw_okq (⟨"EyeStageModel", "moves", "(IIII)I"⟩, 24) := ⟨⟨by decide +kernel, by decide +kernel⟩, List.mem_of_getElem? (i := 1134) (by decide +kernel), List.mem_of_getElem? (i := 1289) (by decide +kernel), List.mem_of_getElem? (i := 1290) (by decide +kernel)⟩
theorem lw_p44 : lw_okq (⟨"EyeStageModel", "notRemove", "(I)I"⟩, 24) := ⟨⟨by decide +kernel, by decide +kernel⟩, List.mem_of_getElem? (i := 1134) (by decide +kernel), List.mem_of_getElem? (i := 1301) (by decide +kernel), List.mem_of_getElem? (i := 1302) (by decide +kernel)⟩
theorem lw_p45 : lw_okq (⟨"EyeStageModel", "removes", "(I)I"⟩, 24) := ⟨⟨by decide +kernel, by decide +kernel⟩, List.mem_of_getElem? (i := 1134) (by decide +kernel), List.mem_of_getElem? (i := 1305) (by decide +kernel), List.mem_of_getElem? (i := 1306) (by decide +kernel)⟩
theorem lw_p46 : lw_okq (⟨"EyeStageModel", "isWithin", "(II)Z"⟩, 24) := ⟨⟨by decide +kernel, by decide +kernel⟩, List.mem_of_getElem? (i := 1134) (by decide +kernel), List.mem_of_getElem? (i := 1309) (by decide +kernel), List.mem_of_getElem? (i := 1310) (by decide +kernel)⟩
theorem lw_p47 : lw_okq (⟨"EyeStageModel", "notScene", "(III)I"⟩, 24) := ⟨⟨by decide +kernel, by decide +kernel⟩, List.mem_of_getElem? (i := 1134) (by decide +kernel), List.mem_of_getElem? (i := 1317) (by decide +kernel), List.mem_of_getElem? (i := 1318) (by decide +kernel)⟩
def lw_privs_3 : List (MethodName × Nat) := [(⟨"EyeStageModel", "anew", "(II)V"⟩, 24), (⟨"EyeStageModel", "keep", "()V"⟩, 24), (⟨"EyeStageModel", "begins", "(II)I"⟩, 24), (⟨"EyeStageModel", "notAdd", "(IIII)I"⟩, 24), (⟨"EyeStageModel", "isNode", "(I)Z"⟩, 24), (⟨"EyeStageModel", "isBox", "(I)Z"⟩, 24), (⟨"EyeStageModel", "of", "(II)I"⟩, 24), (⟨"EyeStageModel", "groupsAround", "(I)I"⟩, 24), (⟨"EyeStageModel", "adds", "(IIIIII)I"⟩, 24), (⟨"EyeStageModel", "notBox", "(IIIIII)I"⟩, 24), (⟨"EyeStageModel", "notMove", "(IIII)I"⟩, 24), (⟨"EyeStageModel", "moves", "(IIII)I"⟩, 24), (⟨"EyeStageModel", "notRemove", "(I)I"⟩, 24), (⟨"EyeStageModel", "removes", "(I)I"⟩, 24), (⟨"EyeStageModel", "isWithin", "(II)Z"⟩, 24), (⟨"EyeStageModel", "notScene", "(III)I"⟩, 24)]
theorem lw_r3 : ∀ q ∈ lw_privs_3, lw_okq q := List.forall_mem_cons.mpr ⟨lw_p32, List.forall_mem_cons.mpr ⟨lw_p33, List.forall_mem_cons.mpr ⟨lw_p34, List.forall_mem_cons.mpr ⟨lw_p35, List.forall_mem_cons.mpr ⟨lw_p36, List.forall_mem_cons.mpr ⟨lw_p37, List.forall_mem_cons.mpr ⟨lw_p38, List.forall_mem_cons.mpr ⟨lw_p39, List.forall_mem_cons.mpr ⟨lw_p40, List.forall_mem_cons.mpr ⟨lw_p41, List.forall_mem_cons.mpr ⟨lw_p42, List.forall_mem_cons.mpr ⟨lw_p43, List.forall_mem_cons.mpr ⟨lw_p44, List.forall_mem_cons.mpr ⟨lw_p45, List.forall_mem_cons.mpr ⟨lw_p46, List.forall_mem_cons.mpr ⟨lw_p47, fun _ h => absurd h List.not_mem_nil⟩⟩⟩⟩⟩⟩⟩⟩⟩⟩⟩⟩⟩⟩⟩⟩
theorem lw_p48 : lw_okq (⟨"EyeStageModel", "addsScene", "(III)I"⟩, 24) := ⟨⟨by decide +kernel, by decide +kernel⟩, List.mem_of_getElem? (i := 1134) (by decide +kernel), List.mem_of_getElem? (i := 1321) (by decide +kernel), List.mem_of_getElem? (i := 1322) (by decide +kernel)⟩
theorem lw_p49 : lw_okq (⟨"EyeStageModel", "sets", "(II)I"⟩, 24) := ⟨⟨by decide +kernel, by decide +kernel⟩, List.mem_of_getElem? (i := 1134) (by decide +kernel), List.mem_of_getElem? (i := 1332) (by decide +kernel), List.mem_of_getElem? (i := 1333) (by decide +kernel)⟩
theorem lw_p50 : lw_okq (⟨"EyeStageModel", "notTitle", "(III)I"⟩, 24) := ⟨⟨by decide +kernel, by decide +kernel⟩, List.mem_of_getElem? (i := 1134) (by decide +kernel), List.mem_of_getElem? (i := 1340) (by decide +kernel), List.mem_of_getElem? (i := 1341) (by decide +kernel)⟩
theorem lw_p51 : lw_okq (⟨"EyeStageModel", "setsTitle", "(III)I"⟩, 24) := ⟨⟨by decide +kernel, by decide +kernel⟩, List.mem_of_getElem? (i := 1134) (by decide +kernel), List.mem_of_getElem? (i := 1344) (by decide +kernel), List.mem_of_getElem? (i := 1345) (by decide +kernel)⟩
theorem lw_p52 : lw_okq (⟨"EyeStageModel", "ticksOn", "(I)I"⟩, 24) := ⟨⟨by decide +kernel, by decide +kernel⟩, List.mem_of_getElem? (i := 1134) (by decide +kernel), List.mem_of_getElem? (i := 1359) (by decide +kernel), List.mem_of_getElem? (i := 1360) (by decide +kernel)⟩
theorem lw_p53 : lw_okq (⟨"EyeStageModel", "tickOnce", "()V"⟩, 24) := ⟨⟨by decide +kernel, by decide +kernel⟩, List.mem_of_getElem? (i := 1134) (by decide +kernel), List.mem_of_getElem? (i := 1363) (by decide +kernel), List.mem_of_getElem? (i := 1364) (by decide +kernel)⟩
theorem lw_p54 : lw_okq (⟨"EyeStageModel", "sceneNow", "()I"⟩, 24) := ⟨⟨by decide +kernel, by decide +kernel⟩, List.mem_of_getElem? (i := 1134) (by decide +kernel), List.mem_of_getElem? (i := 1367) (by decide +kernel), List.mem_of_getElem? (i := 1368) (by decide +kernel)⟩
theorem lw_p55 : lw_okq (⟨"EyeStageModel", "survey", "()V"⟩, 24) := ⟨⟨by decide +kernel, by decide +kernel⟩, List.mem_of_getElem? (i := 1134) (by decide +kernel), List.mem_of_getElem? (i := 1378) (by decide +kernel), List.mem_of_getElem? (i := 1379) (by decide +kernel)⟩
theorem lw_p56 : lw_okq (⟨"EyeStageModel", "places", "()V"⟩, 24) := ⟨⟨by decide +kernel, by decide +kernel⟩, List.mem_of_getElem? (i := 1134) (by decide +kernel), List.mem_of_getElem? (i := 1382) (by decide +kernel), List.mem_of_getElem? (i := 1383) (by decide +kernel)⟩
theorem lw_p57 : lw_okq (⟨"EyeStageModel", "sumOf", "(II)I"⟩, 24) := ⟨⟨by decide +kernel, by decide +kernel⟩, List.mem_of_getElem? (i := 1134) (by decide +kernel), List.mem_of_getElem? (i := 1386) (by decide +kernel), List.mem_of_getElem? (i := 1387) (by decide +kernel)⟩
theorem lw_p58 : lw_okq (⟨"EyeStageModel", "percentageBy", "(II)I"⟩, 24) := ⟨⟨by decide +kernel, by decide +kernel⟩, List.mem_of_getElem? (i := 1134) (by decide +kernel), List.mem_of_getElem? (i := 1390) (by decide +kernel), List.mem_of_getElem? (i := 1391) (by decide +kernel)⟩
theorem lw_p59 : lw_okq (⟨"EyeStageModel", "fits", "(III)Z"⟩, 24) := ⟨⟨by decide +kernel, by decide +kernel⟩, List.mem_of_getElem? (i := 1134) (by decide +kernel), List.mem_of_getElem? (i := 1394) (by decide +kernel), List.mem_of_getElem? (i := 1395) (by decide +kernel)⟩
theorem lw_p60 : lw_okq (⟨"EyeStageModel", "raw", "(I)I"⟩, 24) := ⟨⟨by decide +kernel, by decide +kernel⟩, List.mem_of_getElem? (i := 1134) (by decide +kernel), List.mem_of_getElem? (i := 1398) (by decide +kernel), List.mem_of_getElem? (i := 1399) (by decide +kernel)⟩
theorem lw_p61 : lw_okq (⟨"EyeStageModel", "sort", "()V"⟩, 24) := ⟨⟨by decide +kernel, by decide +kernel⟩, List.mem_of_getElem? (i := 1134) (by decide +kernel), List.mem_of_getElem? (i := 1405) (by decide +kernel), List.mem_of_getElem? (i := 1406) (by decide +kernel)⟩
theorem lw_p62 : lw_okq (⟨"EyeStageModel", "mask", "(Z)I"⟩, 24) := ⟨⟨by decide +kernel, by decide +kernel⟩, List.mem_of_getElem? (i := 1134) (by decide +kernel), List.mem_of_getElem? (i := 1409) (by decide +kernel), List.mem_of_getElem? (i := 1410) (by decide +kernel)⟩
theorem lw_p63 : lw_okq (⟨"EyeStageModel", "isCut", "(IZI)Z"⟩, 24) := ⟨⟨by decide +kernel, by decide +kernel⟩, List.mem_of_getElem? (i := 1134) (by decide +kernel), List.mem_of_getElem? (i := 1413) (by decide +kernel), List.mem_of_getElem? (i := 1414) (by decide +kernel)⟩
def lw_privs_4 : List (MethodName × Nat) := [(⟨"EyeStageModel", "addsScene", "(III)I"⟩, 24), (⟨"EyeStageModel", "sets", "(II)I"⟩, 24), (⟨"EyeStageModel", "notTitle", "(III)I"⟩, 24), (⟨"EyeStageModel", "setsTitle", "(III)I"⟩, 24), (⟨"EyeStageModel", "ticksOn", "(I)I"⟩, 24), (⟨"EyeStageModel", "tickOnce", "()V"⟩, 24), (⟨"EyeStageModel", "sceneNow", "()I"⟩, 24), (⟨"EyeStageModel", "survey", "()V"⟩, 24), (⟨"EyeStageModel", "places", "()V"⟩, 24), (⟨"EyeStageModel", "sumOf", "(II)I"⟩, 24), (⟨"EyeStageModel", "percentageBy", "(II)I"⟩, 24), (⟨"EyeStageModel", "fits", "(III)Z"⟩, 24), (⟨"EyeStageModel", "raw", "(I)I"⟩, 24), (⟨"EyeStageModel", "sort", "()V"⟩, 24), (⟨"EyeStageModel", "mask", "(Z)I"⟩, 24), (⟨"EyeStageModel", "isCut", "(IZI)Z"⟩, 24)]
theorem lw_r4 : ∀ q ∈ lw_privs_4, lw_okq q := List.forall_mem_cons.mpr ⟨lw_p48, List.forall_mem_cons.mpr ⟨lw_p49, List.forall_mem_cons.mpr ⟨lw_p50, List.forall_mem_cons.mpr ⟨lw_p51, List.forall_mem_cons.mpr ⟨lw_p52, List.forall_mem_cons.mpr ⟨lw_p53, List.forall_mem_cons.mpr ⟨lw_p54, List.forall_mem_cons.mpr ⟨lw_p55, List.forall_mem_cons.mpr ⟨lw_p56, List.forall_mem_cons.mpr ⟨lw_p57, List.forall_mem_cons.mpr ⟨lw_p58, List.forall_mem_cons.mpr ⟨lw_p59, List.forall_mem_cons.mpr ⟨lw_p60, List.forall_mem_cons.mpr ⟨lw_p61, List.forall_mem_cons.mpr ⟨lw_p62, List.forall_mem_cons.mpr ⟨lw_p63, fun _ h => absurd h List.not_mem_nil⟩⟩⟩⟩⟩⟩⟩⟩⟩⟩⟩⟩⟩⟩⟩⟩
theorem lw_p64 : lw_okq (⟨"EyeStageModel", "isCutLeft", "(IZI)Z"⟩, 24) := ⟨⟨by decide +kernel, by decide +kernel⟩, List.mem_of_getElem? (i := 1134) (by decide +kernel), List.mem_of_getElem? (i := 1417) (by decide +kernel), List.mem_of_getElem? (i := 1418) (by decide +kernel)⟩
theorem lw_p65 : lw_okq (⟨"EyeStageModel", "columnOf", "(IZ)I"⟩, 24) := ⟨⟨by decide +kernel, by decide +kernel⟩, List.mem_of_getElem? (i := 1134) (by decide +kernel), List.mem_of_getElem? (i := 1421) (by decide +kernel), List.mem_of_getElem? (i := 1422) (by decide +kernel)⟩
theorem lw_p66 : lw_okq (⟨"EyeStageModel", "isInRows", "(I)Z"⟩, 24) := ⟨⟨by decide +kernel, by decide +kernel⟩, List.mem_of_getElem? (i := 1134) (by decide +kernel), List.mem_of_getElem? (i := 1428) (by decide +kernel), List.mem_of_getElem? (i := 1429) (by decide +kernel)⟩
theorem lw_p67 : lw_okq (⟨"EyeStageModel", "isCutRight", "(IZI)Z"⟩, 24) := ⟨⟨by decide +kernel, by decide +kernel⟩, List.mem_of_getElem? (i := 1134) (by decide +kernel), List.mem_of_getElem? (i := 1432) (by decide +kernel), List.mem_of_getElem? (i := 1433) (by decide +kernel)⟩
theorem lw_p68 : lw_okq (⟨"EyeStageModel", "findTitle", "()V"⟩, 24) := ⟨⟨by decide +kernel, by decide +kernel⟩, List.mem_of_getElem? (i := 1134) (by decide +kernel), List.mem_of_getElem? (i := 1439) (by decide +kernel), List.mem_of_getElem? (i := 1440) (by decide +kernel)⟩
theorem lw_p69 : lw_okq (⟨"EyeStageModel", "isClear", "(IIZ)Z"⟩, 24) := ⟨⟨by decide +kernel, by decide +kernel⟩, List.mem_of_getElem? (i := 1134) (by decide +kernel), List.mem_of_getElem? (i := 1443) (by decide +kernel), List.mem_of_getElem? (i := 1444) (by decide +kernel)⟩
theorem lw_p70 : lw_okq (⟨"EyeStageModel", "nodeOf", "(II)I"⟩, 24) := ⟨⟨by decide +kernel, by decide +kernel⟩, List.mem_of_getElem? (i := 1134) (by decide +kernel), List.mem_of_getElem? (i := 1447) (by decide +kernel), List.mem_of_getElem? (i := 1448) (by decide +kernel)⟩
theorem lw_p71 : lw_okq (⟨"EyeStageModel", "inside", "(I)I"⟩, 24) := ⟨⟨by decide +kernel, by decide +kernel⟩, List.mem_of_getElem? (i := 1134) (by decide +kernel), List.mem_of_getElem? (i := 1451) (by decide +kernel), List.mem_of_getElem? (i := 1452) (by decide +kernel)⟩
theorem lw_p72 : lw_okq (⟨"EyeStageModel", "boxOf", "(II)I"⟩, 24) := ⟨⟨by decide +kernel, by decide +kernel⟩, List.mem_of_getElem? (i := 1134) (by decide +kernel), List.mem_of_getElem? (i := 1455) (by decide +kernel), List.mem_of_getElem? (i := 1456) (by decide +kernel)⟩
theorem lw_p73 : lw_okq (⟨"EyeStageModel", "sceneOf", "(II)I"⟩, 24) := ⟨⟨by decide +kernel, by decide +kernel⟩, List.mem_of_getElem? (i := 1134) (by decide +kernel), List.mem_of_getElem? (i := 1467) (by decide +kernel), List.mem_of_getElem? (i := 1468) (by decide +kernel)⟩
theorem lw_p74 : lw_okq (⟨"EyeStageModel", "titleOf", "(I)I"⟩, 24) := ⟨⟨by decide +kernel, by decide +kernel⟩, List.mem_of_getElem? (i := 1134) (by decide +kernel), List.mem_of_getElem? (i := 1475) (by decide +kernel), List.mem_of_getElem? (i := 1476) (by decide +kernel)⟩
theorem lw_p75 : lw_okq (⟨"EyeStageModel", "wholeOf", "(I)I"⟩, 24) := ⟨⟨by decide +kernel, by decide +kernel⟩, List.mem_of_getElem? (i := 1134) (by decide +kernel), List.mem_of_getElem? (i := 1483) (by decide +kernel), List.mem_of_getElem? (i := 1484) (by decide +kernel)⟩
theorem lw_p76 : lw_okq (⟨"EyeStageModel", "isCell", "(II)Z"⟩, 24) := ⟨⟨by decide +kernel, by decide +kernel⟩, List.mem_of_getElem? (i := 1134) (by decide +kernel), List.mem_of_getElem? (i := 1491) (by decide +kernel), List.mem_of_getElem? (i := 1492) (by decide +kernel)⟩
theorem lw_p77 : lw_okq (⟨"EyeStageModel", "shadeOf", "(ZII)I"⟩, 24) := ⟨⟨by decide +kernel, by decide +kernel⟩, List.mem_of_getElem? (i := 1134) (by decide +kernel), List.mem_of_getElem? (i := 1495) (by decide +kernel), List.mem_of_getElem? (i := 1496) (by decide +kernel)⟩
theorem lw_p78 : lw_okq (⟨"EyeStageModel", "top", "(ZII)I"⟩, 24) := ⟨⟨by decide +kernel, by decide +kernel⟩, List.mem_of_getElem? (i := 1134) (by decide +kernel), List.mem_of_getElem? (i := 1499) (by decide +kernel), List.mem_of_getElem? (i := 1500) (by decide +kernel)⟩
theorem lw_p79 : lw_okq (⟨"EyeStageModel", "isTitle", "(ZII)Z"⟩, 24) := ⟨⟨by decide +kernel, by decide +kernel⟩, List.mem_of_getElem? (i := 1134) (by decide +kernel), List.mem_of_getElem? (i := 1503) (by decide +kernel), List.mem_of_getElem? (i := 1504) (by decide +kernel)⟩
def lw_privs_5 : List (MethodName × Nat) := [(⟨"EyeStageModel", "isCutLeft", "(IZI)Z"⟩, 24), (⟨"EyeStageModel", "columnOf", "(IZ)I"⟩, 24), (⟨"EyeStageModel", "isInRows", "(I)Z"⟩, 24), (⟨"EyeStageModel", "isCutRight", "(IZI)Z"⟩, 24), (⟨"EyeStageModel", "findTitle", "()V"⟩, 24), (⟨"EyeStageModel", "isClear", "(IIZ)Z"⟩, 24), (⟨"EyeStageModel", "nodeOf", "(II)I"⟩, 24), (⟨"EyeStageModel", "inside", "(I)I"⟩, 24), (⟨"EyeStageModel", "boxOf", "(II)I"⟩, 24), (⟨"EyeStageModel", "sceneOf", "(II)I"⟩, 24), (⟨"EyeStageModel", "titleOf", "(I)I"⟩, 24), (⟨"EyeStageModel", "wholeOf", "(I)I"⟩, 24), (⟨"EyeStageModel", "isCell", "(II)Z"⟩, 24), (⟨"EyeStageModel", "shadeOf", "(ZII)I"⟩, 24), (⟨"EyeStageModel", "top", "(ZII)I"⟩, 24), (⟨"EyeStageModel", "isTitle", "(ZII)Z"⟩, 24)]
theorem lw_r5 : ∀ q ∈ lw_privs_5, lw_okq q := List.forall_mem_cons.mpr ⟨lw_p64, List.forall_mem_cons.mpr ⟨lw_p65, List.forall_mem_cons.mpr ⟨lw_p66, List.forall_mem_cons.mpr ⟨lw_p67, List.forall_mem_cons.mpr ⟨lw_p68, List.forall_mem_cons.mpr ⟨lw_p69, List.forall_mem_cons.mpr ⟨lw_p70, List.forall_mem_cons.mpr ⟨lw_p71, List.forall_mem_cons.mpr ⟨lw_p72, List.forall_mem_cons.mpr ⟨lw_p73, List.forall_mem_cons.mpr ⟨lw_p74, List.forall_mem_cons.mpr ⟨lw_p75, List.forall_mem_cons.mpr ⟨lw_p76, List.forall_mem_cons.mpr ⟨lw_p77, List.forall_mem_cons.mpr ⟨lw_p78, List.forall_mem_cons.mpr ⟨lw_p79, fun _ h => absurd h List.not_mem_nil⟩⟩⟩⟩⟩⟩⟩⟩⟩⟩⟩⟩⟩⟩⟩⟩
theorem lw_p80 : lw_okq (⟨"EyeStageModel", "ghostOf", "(II)I"⟩, 24) := ⟨⟨by decide +kernel, by decide +kernel⟩, List.mem_of_getElem? (i := 1134) (by decide +kernel), List.mem_of_getElem? (i := 1515) (by decide +kernel), List.mem_of_getElem? (i := 1516) (by decide +kernel)⟩
theorem lw_p81 : lw_okq (⟨"EyeStageModel", "ghostsNow", "(I)I"⟩, 24) := ⟨⟨by decide +kernel, by decide +kernel⟩, List.mem_of_getElem? (i := 1134) (by decide +kernel), List.mem_of_getElem? (i := 1523) (by decide +kernel), List.mem_of_getElem? (i := 1524) (by decide +kernel)⟩
theorem lw_p82 : lw_okq (⟨"EyeStageModel", "isGood", "()Z"⟩, 24) := ⟨⟨by decide +kernel, by decide +kernel⟩, List.mem_of_getElem? (i := 1134) (by decide +kernel), List.mem_of_getElem? (i := 1562) (by decide +kernel), List.mem_of_getElem? (i := 1563) (by decide +kernel)⟩
theorem lw_p83 : lw_okq (⟨"EyeStageModel", "skips", "()Z"⟩, 24) := ⟨⟨by decide +kernel, by decide +kernel⟩, List.mem_of_getElem? (i := 1134) (by decide +kernel), List.mem_of_getElem? (i := 1566) (by decide +kernel), List.mem_of_getElem? (i := 1567) (by decide +kernel)⟩
theorem lw_p84 : lw_okq (⟨"EyeStageModel", "here", "()I"⟩, 24) := ⟨⟨by decide +kernel, by decide +kernel⟩, List.mem_of_getElem? (i := 1134) (by decide +kernel), List.mem_of_getElem? (i := 1570) (by decide +kernel), List.mem_of_getElem? (i := 1571) (by decide +kernel)⟩
theorem lw_p85 : lw_okq (⟨"EyeStageModel", "readCommand", "()Z"⟩, 24) := ⟨⟨by decide +kernel, by decide +kernel⟩, List.mem_of_getElem? (i := 1134) (by decide +kernel), List.mem_of_getElem? (i := 1574) (by decide +kernel), List.mem_of_getElem? (i := 1575) (by decide +kernel)⟩
theorem lw_p86 : lw_okq (⟨"EyeStageModel", "readWord", "()Z"⟩, 24) := ⟨⟨by decide +kernel, by decide +kernel⟩, List.mem_of_getElem? (i := 1134) (by decide +kernel), List.mem_of_getElem? (i := 1578) (by decide +kernel), List.mem_of_getElem? (i := 1579) (by decide +kernel)⟩
theorem lw_p87 : lw_okq (⟨"EyeStageModel", "manyFor", "()I"⟩, 24) := ⟨⟨by decide +kernel, by decide +kernel⟩, List.mem_of_getElem? (i := 1134) (by decide +kernel), List.mem_of_getElem? (i := 1597) (by decide +kernel), List.mem_of_getElem? (i := 1598) (by decide +kernel)⟩
theorem lw_p88 : lw_okq (⟨"EyeStageModel", "readNumber", "(I)Z"⟩, 24) := ⟨⟨by decide +kernel, by decide +kernel⟩, List.mem_of_getElem? (i := 1134) (by decide +kernel), List.mem_of_getElem? (i := 1601) (by decide +kernel), List.mem_of_getElem? (i := 1602) (by decide +kernel)⟩
theorem lw_p89 : lw_okq (⟨"EyeStageModel", "whyNot", "()I"⟩, 24) := ⟨⟨by decide +kernel, by decide +kernel⟩, List.mem_of_getElem? (i := 1134) (by decide +kernel), List.mem_of_getElem? (i := 1605) (by decide +kernel), List.mem_of_getElem? (i := 1606) (by decide +kernel)⟩
theorem lw_p90 : lw_okq (⟨"EyeStageModel", "carryOut", "()I"⟩, 24) := ⟨⟨by decide +kernel, by decide +kernel⟩, List.mem_of_getElem? (i := 1134) (by decide +kernel), List.mem_of_getElem? (i := 1609) (by decide +kernel), List.mem_of_getElem? (i := 1610) (by decide +kernel)⟩
theorem lw_p91 : lw_okq (⟨"EyeStageModel", "mix", "(J)V"⟩, 24) := ⟨⟨by decide +kernel, by decide +kernel⟩, List.mem_of_getElem? (i := 1134) (by decide +kernel), List.mem_of_getElem? (i := 1622) (by decide +kernel), List.mem_of_getElem? (i := 1623) (by decide +kernel)⟩
theorem lw_p92 : lw_okq (⟨"EyeStageModel", "mixThings", "()V"⟩, 24) := ⟨⟨by decide +kernel, by decide +kernel⟩, List.mem_of_getElem? (i := 1134) (by decide +kernel), List.mem_of_getElem? (i := 1627) (by decide +kernel), List.mem_of_getElem? (i := 1628) (by decide +kernel)⟩
def lw_privs_6 : List (MethodName × Nat) := [(⟨"EyeStageModel", "ghostOf", "(II)I"⟩, 24), (⟨"EyeStageModel", "ghostsNow", "(I)I"⟩, 24), (⟨"EyeStageModel", "isGood", "()Z"⟩, 24), (⟨"EyeStageModel", "skips", "()Z"⟩, 24), (⟨"EyeStageModel", "here", "()I"⟩, 24), (⟨"EyeStageModel", "readCommand", "()Z"⟩, 24), (⟨"EyeStageModel", "readWord", "()Z"⟩, 24), (⟨"EyeStageModel", "manyFor", "()I"⟩, 24), (⟨"EyeStageModel", "readNumber", "(I)Z"⟩, 24), (⟨"EyeStageModel", "whyNot", "()I"⟩, 24), (⟨"EyeStageModel", "carryOut", "()I"⟩, 24), (⟨"EyeStageModel", "mix", "(J)V"⟩, 24), (⟨"EyeStageModel", "mixThings", "()V"⟩, 24)]
theorem lw_r6 : ∀ q ∈ lw_privs_6, lw_okq q := List.forall_mem_cons.mpr ⟨lw_p80, List.forall_mem_cons.mpr ⟨lw_p81, List.forall_mem_cons.mpr ⟨lw_p82, List.forall_mem_cons.mpr ⟨lw_p83, List.forall_mem_cons.mpr ⟨lw_p84, List.forall_mem_cons.mpr ⟨lw_p85, List.forall_mem_cons.mpr ⟨lw_p86, List.forall_mem_cons.mpr ⟨lw_p87, List.forall_mem_cons.mpr ⟨lw_p88, List.forall_mem_cons.mpr ⟨lw_p89, List.forall_mem_cons.mpr ⟨lw_p90, List.forall_mem_cons.mpr ⟨lw_p91, List.forall_mem_cons.mpr ⟨lw_p92, fun _ h => absurd h List.not_mem_nil⟩⟩⟩⟩⟩⟩⟩⟩⟩⟩⟩⟩⟩
def lw_privs : List (MethodName × Nat) := lw_privs_1 ++ (lw_privs_2 ++ (lw_privs_3 ++ (lw_privs_4 ++ (lw_privs_5 ++ (lw_privs_6)))))
def lw_tbl : List Cond := k2_sels lw_privs ++ tables_1
theorem lw_privs_ok : ∀ q ∈ lw_privs, lw_okq q := by
  show ∀ q ∈ lw_privs_1 ++ (lw_privs_2 ++ (lw_privs_3 ++ (lw_privs_4 ++ (lw_privs_5 ++ (lw_privs_6))))), lw_okq q
  exact List.forall_mem_append.mpr ⟨lw_r1, List.forall_mem_append.mpr ⟨lw_r2, List.forall_mem_append.mpr ⟨lw_r3, List.forall_mem_append.mpr ⟨lw_r4, List.forall_mem_append.mpr ⟨lw_r5, lw_r6⟩⟩⟩⟩⟩
/-- the streams that the claim lets the run draw from -/
abbrev lw_cs : List Choice := [Jvm.Choice.named "NaN.bits"]
theorem lw_bits : nanBits ∈ lw_cs := by first | decide | exact List.mem_cons_self | simp [lw_cs, nanBits]
/-! ===== BEGIN words of one list among another's, by their places ===== -/
theorem goodIn_r {big : List Cond} (ws : List Cond) (ps : List Nat) (hp : ws = ps.filterMap (fun i => big[i]?)) (h : ws.all goodWord = true) : GoodIn big ws := by
  intro w hw
  have h1 := List.all_eq_true.mp h w hw
  rw [hp] at hw
  obtain ⟨i, -, hi⟩ := List.mem_filterMap.mp hw
  have hm : w ∈ big := by first | exact List.mem_of_getElem? hi | exact List.getElem?_mem hi
  exact ⟨hm, good_of_word h1⟩
theorem goodIn_app {big a b : List Cond} (ha : GoodIn big a) (hb : GoodIn big b) : GoodIn big (a ++ b) := fun w h => (List.mem_append.mp h).elim (ha w) (hb w)
theorem goodIn_ca {big a b : List Cond} {c : Cond} (ha : GoodIn big (c :: a)) (hb : GoodIn big b) : GoodIn big (c :: (a ++ b)) := fun w h => (List.mem_cons.mp h).elim (fun e => ha w (List.mem_cons.mpr (Or.inl e))) (fun h => (List.mem_append.mp h).elim (fun h => ha w (List.mem_cons.mpr (Or.inr h))) (hb w))
theorem goodIn_sub {big ws : List Cond} (hm : ∀ w ∈ ws, w ∈ big) (h : ws.all goodWord = true) : GoodIn big ws := fun w hw => ⟨hm w hw, good_of_word (List.all_eq_true.mp h w hw)⟩
/-! ===== END ===== -/

/-! ===== BEGIN exceptions that leave a method, and their catching by the caller (launches without stack traces) ===== -/
section VXA
/-! The laws vx_back, vx_callV, vx_callS, vx_callSW, vx_throw0, vx_throwS follow proofs of the library, with one case more: JvmDerived/Free/Laws.lean (Back.of_free), Shelf42/LK1.lean (callV, callS), Shelf/KitTraced.lean (throwNew0V, throwNewS). -/
/-- where a method has thrown q: the class by its name, the cell, what was written, the world -/
def vx_T (XC : String → State → State → Prop) (st : State) (q : Addr) (t : State) (mc ms : Nat) (free : Addr → Prop) : Prop :=
  ∃ (E : String) (ce : Cell) (L : List Loc), XC E st t ∧ t.heap[q]? = some ce ∧ ce.vm = .none ∧ st.vm.findClass E = some ce.cls ∧ st.WarmedH t.vm ∧ st.sameButNew ({ t with vm := st.vm } : State) L mc ms ∧ ∀ z ∈ L, free z.base
def vx_Q (Qc : Array Value → State → Outcome → State → Prop) (XC : String → State → State → Prop) (mc ms : Nat) (free : Addr → Prop) : Array Value → State → Outcome → State → Prop := fun a st o t =>
  (Qc a st o t ∧ ∃ L, FrameEnd st o t L mc ms ∧ ∀ q ∈ L, free q.base) ∨ ∃ q, o = .threw q ∧ vx_T XC st q t mc ms free
/-- a callee that returns or throws -/
def vx_Met (l : Launch) (y : MethodName) (ws : List Cond) (rm : Room) (Pc : Array Value → State → Prop) (Qc : Array Value → State → Outcome → State → Prop) (XC : String → State → State → Prop) (mc ms : Nat) (free : Addr → Prop) : Prop :=
  MetFree l y (headSpec ws rm) Pc (fun _ _ _ _ _ => True) (vx_Q Qc XC mc ms free)
def vx_Post (XC : String → State → State → Prop) (mc ms : Nat) (free : Addr → Prop) : Pt → Array Value → Addr → Pt → Prop := fun A a q B =>
  ∃ (g : JFrame) (mk : MethodId) (t : State) (L : List Loc) (E : String) (ce : Cell), B.U.heap = t.heap ∧ B.U.vm = t.vm ∧ XC E (A.U.calling g mk a) t ∧ t.heap[q]? = some ce ∧ ce.vm = .none ∧ A.U.vm.findClass E = some ce.cls ∧ B.locs = A.locs ++ L ∧ (∀ z ∈ L, free z.base) ∧ B.cells = A.cells + mc ∧ B.slots = A.slots + ms
def vx_Back (l : Launch) (R : Room) (p : Program) (e : Env) (below : List Frame) (s : State) (sargs : Array Value) (y : MethodName) (len W9 : Nat)
    (Pre : Pt → Array Value → Prop) (Post : Pt → Array Value → Option Value → Pt → Prop) (PostX : Pt → Array Value → Addr → Pt → Prop) : Prop :=
  ∀ (m : MethodId) (meth : Method) (c : Code) (A : Pt) (g : JFrame) (ig : Instr) (mk : MethodId) (a : Array Value),
    Stand p l e R s m sargs below meth c A.U A.locs A.cells A.slots → g.method = m → g.locals.size = c.maxLocals → decode c.code g.pc = .ok (ig, len) →
    2 * g.monitorRoom + (g.stack.map fun v => v.category).sum ≤ W9 → A.U.methodNamed? y = some mk → Pre A a →
    (∃ (v : Option Value) (B : Pt), Stand p l e R s m sargs below meth c B.U B.locs B.cells B.slots ∧ Post A a v B ∧
      Steps p.tables e below (doInvoke e (A.U.setTop g) [] mk a).1 (B.U.setTop { g with pc := g.pc + len, stack := v.toList ++ g.stack })) ∨
    (∃ (q : Addr) (B : Pt), Stand p l e R s m sargs below meth c B.U B.locs B.cells B.slots ∧ PostX A a q B ∧
      Steps p.tables e below (doInvoke e (A.U.setTop g) [] mk a).1 ((B.U.setTop g).pushFrame (.throwing q)))
section Payer
variable {l : Launch} {R : Room} {p : Program} {e : Env} {below : List Frame} {s : State} {sargs : Array Value} {y : MethodName} {len W9 : Nat}
theorem vx_back {ws : List Cond} {rm : Room} {Pc : Array Value → State → Prop} {Qc : Array Value → State → Outcome → State → Prop} {XC : String → State → State → Prop} {mc ms : Nat} {free : Addr → Prop} {bytes : ByteArray} {maxL : Nat} {ret : Option FieldType}
    (hM : vx_Met l y ws rm Pc Qc XC mc ms free) (hblind : FrameBlind Pc) (hrc : rm.cells = mc) (hrs : rm.slots = ms)
    (hframes : rm.frames + 1 ≤ R.frames) (hlocals : W9 + (maxL + 11) + rm.locals ≤ R.locals)
    (hws : ∀ w ∈ ws, ∀ a' U, s.WarmedH U.vm → w.before a' U = true) (hcode : Cond.code y bytes maxL ret ∈ ws) (hinit : ∀ a' U, s.WarmedH U.vm → (Cond.initialized y.cls).before a' U = true) :
    vx_Back l R p e below s sargs y len W9 (PreOf R mc ms Pc) (PostOf Qc mc ms free) (vx_Post XC mc ms free) := by
  intro m meth c A g ig mk a X hg hsize hdg hW hn hp
  have h1 : (headSpec ws rm).pre.before a A.U = true := atoms_intro fun w hw => hws w hw _ _ X.warmed
  have h2 : (Cond.code y bytes maxL ret).before a A.U = true := hws _ hcode _ _ X.warmed
  have h3 : (Cond.initialized y.cls).before a A.U = true := hinit _ _ X.warmed
  have h4 : A.cells + (headSpec ws rm).room.cells ≤ R.cells := by rw [show (headSpec ws rm).room.cells = mc from hrc]; exact hp.1
  have h5 : A.slots + (headSpec ws rm).room.slots ≤ R.slots := by rw [show (headSpec ws rm).room.slots = ms from hrs]; exact hp.2.1
  have hPc : Pc a (A.U.calling g mk a) := hblind _ _ _ _ hp.2.2
  obtain ⟨U, Ls, c0, s0⟩ := A
  dsimp only [Pt.U, Pt.locs, Pt.cells, Pt.slots] at h1 h2 h3 h4 h5 X hn hPc ⊢
  obtain ⟨methY, cY, hmY, hcY, -, hlY, -, -, -, -⟩ := Cond.code_spec hn h2
  obtain ⟨kY, hkY, -⟩ := className_of_methodNamed hn
  have hinitY : kY.init = .initialized := Cond.initialized_spec (findClass_of_methodNamed hn) hkY h3
  have h : At U g.method c below := by rw [hg]; exact X.here
  have hlocals9 : W9 + (maxL + 11) + (headSpec ws rm).room.locals ≤ R.locals := hlocals
  have happ : (headSpec ws rm).appliesLoose y e.platform (U.calling g mk a) = true :=
    Spec.appliesLoose_calling (g := g) h hdg hn hkY hinitY
      (X.room_calling (g := g) (R' := (headSpec ws rm).room) hsize hmY hcY hframes (by rw [hlY]; omega) h4 h5) h1
  obtain ⟨mid, hmid⟩ := h.above
  have hfr : (U.setTop g).frames = (.java g :: mid) ++ below := by rw [State.frames_setTop' g h.top, hmid]; rfl
  obtain ⟨o, s₂, hsteps, -, hend, hq⟩ := Steps.callFree hM p X.admits X.cas X.clock (acts := []) hfr happ hPc trivial
  have hq' : vx_Q Qc XC mc ms free a (U.calling g mk a) o s₂ := hq
  rw [State.frames_setTop' g h.top] at hend
  obtain ⟨g₀, hg0⟩ := Option.isSome_iff_exists.mp h.top
  obtain ⟨r, hr⟩ := State.topJava?_eq_some.mp hg0
  have hr' : (({ U with heap := s₂.heap, slotsUsed := s₂.slotsUsed } : State).setVm s₂.vm).frames = .java g₀ :: r := hr
  rcases hq' with ⟨hqc, L, hfe, hL⟩ | ⟨q, rfl, E, ce, L, hx, hce, hcv, hcl, hW₂, hsm, hL⟩
  · obtain ⟨⟨v, rfl⟩, hW₂, e2, q2, q3, q4, q5, q6⟩ := id hfe
    have e3 : s₂ = ({ (U.calling g mk a).setFrames s₂.frames with heap := s₂.heap, slotsUsed := s₂.slotsUsed } : State).setVm s₂.vm := by
      have : s₂ = ({ s₂ with vm := (U.calling g mk a).vm } : State).setVm s₂.vm := rfl
      rw [e2] at this
      exact this
    obtain ⟨c₂, i₂, len₂, hc₂, hd₂, hf₂⟩ := hend
    have hW' : U.WarmedH s₂.vm := hW₂
    have hcc : c₂ = c := by
      have h1 : s₂.code? g.method = U.code? g.method := by
        rw [State.code?_eq, State.code?_eq, hW'.alike.method?]
      exact Option.some.inj (hc₂.symm.trans (h1.trans h.code))
    subst hcc
    have hlen : len₂ = len := by rw [hdg] at hd₂; cases hd₂; rfl
    subst hlen
    have hs₂ : s₂ = (({ U with heap := s₂.heap, slotsUsed := s₂.slotsUsed } : State).setVm s₂.vm).setTop { g with pc := g.pc + len₂, stack := v.toList ++ g.stack } := by
      refine e3.trans ?_
      rw [hf₂, State.calling_eq h.top, State.setFrames_setFrames, State.setTop_of_frames _ hr', hr]
      rfl
    have hsame : U.sameButNew ({ U with heap := s₂.heap, slotsUsed := s₂.slotsUsed } : State) L mc ms := by
      refine ⟨?_, q2, q3, q4, q5, q6⟩
      obtain ⟨t, ht, -⟩ := State.frames_cons hr
      show ({ U with heap := s₂.heap, slotsUsed := s₂.slotsUsed } : State) = { U.setFrames U.frames with heap := s₂.heap, slotsUsed := s₂.slotsUsed }
      rw [State.setFrames_self ht]
    subst hg
    refine Or.inl ⟨v, ⟨(({ U with heap := s₂.heap, slotsUsed := s₂.slotsUsed } : State).setVm s₂.vm), Ls ++ L, c0 + mc, s0 + ms⟩,
      ⟨X.admits, X.cas, X.clock, X.frames, X.room, X.hears, X.method, X.code, (X.here.setHeapUsed s₂.heap s₂.slotsUsed).setVm hW'.alike, X.tail, State.WarmedH.trans X.warmed hW', X.limits, X.bytes, X.same.trans (hsame.setVm s.vm)⟩,
      ⟨g, mk, s₂, L, rfl, rfl, hqc, rfl, hL, rfl, rfl⟩, ?_⟩
    show Steps p.tables e below _ ((({ U with heap := s₂.heap, slotsUsed := s₂.slotsUsed } : State).setVm s₂.vm).setTop { g with pc := g.pc + len₂, stack := v.toList ++ g.stack })
    rw [← hs₂]
    exact hsteps
  · obtain ⟨e2, q2, q3, q4, q5, q6⟩ := id hsm
    have e3 : s₂ = ({ (U.calling g mk a).setFrames s₂.frames with heap := s₂.heap, slotsUsed := s₂.slotsUsed } : State).setVm s₂.vm := by
      have : s₂ = ({ s₂ with vm := (U.calling g mk a).vm } : State).setVm s₂.vm := rfl
      rw [e2] at this
      exact this
    have hf₂ : s₂.frames = .throwing q :: .java g :: U.frames.tail := hend
    have hW' : U.WarmedH s₂.vm := hW₂
    have hs₂ : s₂ = ((({ U with heap := s₂.heap, slotsUsed := s₂.slotsUsed } : State).setVm s₂.vm).setTop g).pushFrame (.throwing q) := by
      refine e3.trans ?_
      rw [hf₂, State.calling_eq h.top, State.setFrames_setFrames, State.pushFrame, State.frames_setTop _ hr', State.setTop_of_frames _ hr', State.setFrames_setFrames, hr]
      rfl
    have hsame : U.sameButNew ({ U with heap := s₂.heap, slotsUsed := s₂.slotsUsed } : State) L mc ms := by
      refine ⟨?_, q2, q3, q4, q5, q6⟩
      obtain ⟨t, ht, -⟩ := State.frames_cons hr
      show ({ U with heap := s₂.heap, slotsUsed := s₂.slotsUsed } : State) = { U.setFrames U.frames with heap := s₂.heap, slotsUsed := s₂.slotsUsed }
      rw [State.setFrames_self ht]
    subst hg
    refine Or.inr ⟨q, ⟨(({ U with heap := s₂.heap, slotsUsed := s₂.slotsUsed } : State).setVm s₂.vm), Ls ++ L, c0 + mc, s0 + ms⟩,
      ⟨X.admits, X.cas, X.clock, X.frames, X.room, X.hears, X.method, X.code, (X.here.setHeapUsed s₂.heap s₂.slotsUsed).setVm hW'.alike, X.tail, State.WarmedH.trans X.warmed hW', X.limits, X.bytes, X.same.trans (hsame.setVm s.vm)⟩,
      ⟨g, mk, s₂, L, E, ce, rfl, rfl, hx, hce, hcv, hcl, rfl, hL, rfl, rfl⟩, ?_⟩
    show Steps p.tables e below _ (((({ U with heap := s₂.heap, slotsUsed := s₂.slotsUsed } : State).setVm s₂.vm).setTop g).pushFrame (.throwing q))
    rw [← hs₂]
    exact hsteps
end Payer
section Calls
variable {p : Program} {l : Launch} {e : Env} {R : Room} {s : State} {m : MethodId} {args : Array Value} {below : List Frame} {meth : Method} {c : Code} {T : State} {locs : List Loc} {cells slots : Nat}
theorem vx_callV (X : Stand p l e R s m args below meth c T locs cells slots) (hexec : p.tables.exec = Jvm.exec) {own C : String} {index : Nat} {y : MethodName} {bytes : ByteArray} {maxL : Nat} {ret : Option FieldType}
    (hown : s.vm.findClass own = some m.cls) (hlink : (Cond.methodLink own index y).before args s = true) (hinst : (Cond.instanceMethod y).before args s = true) (hsel : (Cond.selects C y y).before args s = true)
    (hcode : (Cond.code y bytes maxL ret).before args s = true) (hy : y.cls ≠ "java/lang/invoke/MethodHandle" ∧ y.cls ≠ "java/lang/invoke/VarHandle")
    {W9 : Nat} {Pre : Pt → Array Value → Prop} {Post : Pt → Array Value → Option Value → Pt → Prop} {PostX : Pt → Array Value → Addr → Pt → Prop} (hK : vx_Back l R p e below s args y 3 W9 Pre Post PostX)
    {b : Addr} {cellB : Cell} (hcell : T.heap[b]? = some cellB) (hobj : cellB.vm.isStatics = false) (hcls : s.vm.findClass C = some cellB.cls)
    {g : JFrame} (hg : g.method = m) (hsize : g.locals.size = c.maxLocals) {argsL rest : List Value} (hlen : ∀ sig, parseMethodDescriptor y.desc = some sig → argsL.length = sig.parameters.length)
    (hstack : g.stack = argsL.reverse ++ .ref b :: rest) (hW : 2 * g.monitorRoom + (rest.map fun v => v.category).sum ≤ W9) (hdg : decode c.code g.pc = .ok (.invokevirtual index, 3))
    (hpre : ∀ vm₁, s.WarmedH vm₁ → Pre ⟨T.setVm vm₁, locs, cells, slots⟩ (Value.ref b :: argsL).toArray) :
    (∃ (v : Option Value) (vm₁ : Vm) (B : Pt), s.WarmedH vm₁ ∧ Stand p l e R s m args below meth c B.U B.locs B.cells B.slots ∧ Post ⟨T.setVm vm₁, locs, cells, slots⟩ (Value.ref b :: argsL).toArray v B ∧
      ∀ target, Steps p.tables e below (B.U.setTop { g with pc := g.pc + 3, stack := v.toList ++ rest }) target → Steps p.tables e below (T.setTop g) target) ∨
    (∃ (q : Addr) (vm₁ : Vm) (B : Pt), s.WarmedH vm₁ ∧ Stand p l e R s m args below meth c B.U B.locs B.cells B.slots ∧ PostX ⟨T.setVm vm₁, locs, cells, slots⟩ (Value.ref b :: argsL).toArray q B ∧
      Steps p.tables e below (T.setTop g) ((B.U.setTop { g with stack := rest }).pushFrame (.throwing q))) := by
  obtain ⟨mk, methM, hnamed, hmethM, hstM, habM⟩ := Cond.instanceMethod_spec hinst
  obtain ⟨methM', cM, hmethM', -, -, -, -, -, -, hsigM⟩ := Cond.code_spec hnamed hcode
  cases hmethM.symm.trans hmethM'
  obtain ⟨c2, r2, m2, q1, q2, q3, q4, kP, hkP, hkPi⟩ := Cond.selects_spec hsel
  cases hcls.symm.trans q1
  cases (State.methodFound?_of_named hnamed hy).symm.trans q2
  cases hnamed.symm.trans q3
  have hselP : selectMethod e.platform s.vm cellB.cls mk = .method mk := by rw [Launch.admits_selectMethod X.admits]; exact q4
  obtain ⟨vm₁, X₁, hstep₁⟩ := X.invokevirtual hexec hown hlink hnamed hmethM hstM hkP hkPi hy (a := b) (cell := cellB) hcell
    (fun z h => by rw [h] at hobj; cases hobj) hselP hmethM habM hkP hkPi (g := g) hg (argsL := argsL) (rest := rest) (hlen _ hsigM) hstack hdg
  rcases hK m meth c ⟨T.setVm vm₁, locs, cells, slots⟩ { g with stack := rest } (.invokevirtual index) mk (Value.ref b :: argsL).toArray X₁ hg hsize hdg hW (X₁.named hnamed) (hpre vm₁ X₁.warmed) with ⟨v, B, X', hpost, hsteps⟩ | ⟨q, B, X', hpost, hsteps⟩
  · exact Or.inl ⟨v, vm₁, B, X₁.warmed, X', hpost, fun target h => hstep₁ _ fun acts => by rw [doInvoke_state]; exact hsteps.trans h⟩
  · exact Or.inr ⟨q, vm₁, B, X₁.warmed, X', hpost, hstep₁ _ fun acts => by rw [doInvoke_state]; exact hsteps⟩
theorem vx_callS (X : Stand p l e R s m args below meth c T locs cells slots) (hexec : p.tables.exec = Jvm.exec) {own : String} {index : Nat} {y : MethodName} {bytes : ByteArray} {maxL : Nat} {ret : Option FieldType}
    (hown : s.vm.findClass own = some m.cls) (hlink : (Cond.methodLink own index y).before args s = true) (hstat : (Cond.static y).before args s = true) (hinit : (Cond.initialized y.cls).before args s = true)
    (hcode : (Cond.code y bytes maxL ret).before args s = true) (hy : y.cls ≠ "java/lang/invoke/MethodHandle" ∧ y.cls ≠ "java/lang/invoke/VarHandle")
    {W9 : Nat} {Pre : Pt → Array Value → Prop} {Post : Pt → Array Value → Option Value → Pt → Prop} {PostX : Pt → Array Value → Addr → Pt → Prop} (hK : vx_Back l R p e below s args y 3 W9 Pre Post PostX)
    {g : JFrame} (hg : g.method = m) (hsize : g.locals.size = c.maxLocals) {argsL rest : List Value} (hlen : ∀ sig, parseMethodDescriptor y.desc = some sig → argsL.length = sig.parameters.length)
    (hstack : g.stack = argsL.reverse ++ rest) (hW : 2 * g.monitorRoom + (rest.map fun v => v.category).sum ≤ W9) (hdg : decode c.code g.pc = .ok (.invokestatic index, 3))
    (hpre : ∀ vm₁, s.WarmedH vm₁ → Pre ⟨T.setVm vm₁, locs, cells, slots⟩ argsL.toArray) :
    (∃ (v : Option Value) (vm₁ : Vm) (B : Pt), s.WarmedH vm₁ ∧ Stand p l e R s m args below meth c B.U B.locs B.cells B.slots ∧ Post ⟨T.setVm vm₁, locs, cells, slots⟩ argsL.toArray v B ∧
      ∀ target, Steps p.tables e below (B.U.setTop { g with pc := g.pc + 3, stack := v.toList ++ rest }) target → Steps p.tables e below (T.setTop g) target) ∨
    (∃ (q : Addr) (vm₁ : Vm) (B : Pt), s.WarmedH vm₁ ∧ Stand p l e R s m args below meth c B.U B.locs B.cells B.slots ∧ PostX ⟨T.setVm vm₁, locs, cells, slots⟩ argsL.toArray q B ∧
      Steps p.tables e below (T.setTop g) ((B.U.setTop { g with stack := rest }).pushFrame (.throwing q))) := by
  obtain ⟨mk, hnamed⟩ := Cond.code_named hcode
  obtain ⟨methM, cM, hmethM, -, -, -, -, -, -, hsigM⟩ := Cond.code_spec hnamed hcode
  have hstatic : methM.isStatic = true := Cond.static_spec hnamed hmethM hstat
  obtain ⟨kP, hkP, -⟩ := className_of_methodNamed hnamed
  have hinitP : kP.init = .initialized := Cond.initialized_spec (findClass_of_methodNamed hnamed) hkP hinit
  obtain ⟨vm₁, X₁, hstep₁⟩ := X.invokestatic hexec hown hlink hnamed hmethM hstatic hkP hinitP hy (g := g) hg (argsL := argsL) (rest := rest) (hlen _ hsigM) hstack hdg
  rcases hK m meth c ⟨T.setVm vm₁, locs, cells, slots⟩ { g with stack := rest } (.invokestatic index) mk argsL.toArray X₁ hg hsize hdg hW (X₁.named hnamed) (hpre vm₁ X₁.warmed) with ⟨v, B, X', hpost, hsteps⟩ | ⟨q, B, X', hpost, hsteps⟩
  · exact Or.inl ⟨v, vm₁, B, X₁.warmed, X', hpost, fun target h => hstep₁ _ fun acts => by rw [doInvoke_state]; exact hsteps.trans h⟩
  · exact Or.inr ⟨q, vm₁, B, X₁.warmed, X', hpost, hstep₁ _ fun acts => by rw [doInvoke_state]; exact hsteps⟩
end Calls
theorem vx_cls {s : State} {T : State} {vm₁ : Vm} {E : String} {k : ClassId} (hW : s.WarmedH vm₁) (h : (T.setVm vm₁).vm.findClass E = some k) : s.vm.findClass E = some k := by
  have h1 : vm₁.findClass E = some k := h
  rw [hW.alike.findClass] at h1
  exact h1
/-- the method's frame g, with q thrown over it -/
def vx_W (p : Program) (l : Launch) (e : Env) (R : Room) (s : State) (m : MethodId) (args : Array Value) (below : List Frame) (meth : Method) (c : Code) (H : Heap) (locs : List Loc) (cells slots : Nat) (Q : State → Prop) (g : JFrame) (q : Addr) : Prop :=
  ∀ T : State, T.heap = H → Stand p l e R s m args below meth c T locs cells slots → ∃ t, Steps p.tables e below ((T.setTop g).pushFrame (.throwing q)) t ∧ Q t
def vx_Run (p : Program) (l : Launch) (e : Env) (R : Room) (s : State) (m : MethodId) (args : Array Value) (below : List Frame) (meth : Method) (c : Code) (H : Heap) (locs : List Loc) (cells slots mc ms : Nat) (g : JFrame) (rest : List Value) (Qa : State → Outcome → State → Prop) (XC : String → State → State → Prop) (free : Addr → Prop) : Prop :=
  ∀ T : State, T.heap = H → Stand p l e R s m args below meth c T locs cells slots →
    (∃ (v : Option Value) (st₀ t T' : State) (L : List Loc), st₀.heap = H ∧ Stand p l e R s m args below meth c T' (locs ++ L) (cells + mc) (slots + ms) ∧ (∀ q ∈ L, free q.base) ∧ T'.heap = t.heap ∧ T'.vm = t.vm ∧ Qa st₀ (.returned v) t ∧
      Goes p e below T g T' { g with pc := g.pc + 3, stack := v.toList ++ rest }) ∨
    (∃ (q : Addr) (st₀ t T' : State) (L : List Loc) (E : String) (ce : Cell), st₀.heap = H ∧ Stand p l e R s m args below meth c T' (locs ++ L) (cells + mc) (slots + ms) ∧ (∀ z ∈ L, free z.base) ∧ T'.heap = t.heap ∧ T'.vm = t.vm ∧ XC E st₀ t ∧ t.heap[q]? = some ce ∧ ce.vm = .none ∧ s.vm.findClass E = some ce.cls ∧
      Steps p.tables e below (T.setTop g) ((T'.setTop { g with stack := rest }).pushFrame (.throwing q)))
def vx_X {S : Type} (px : S → Prop) (B : String → S → State → Prop) (A : Nat → Prop) : String → State → State → Prop := fun E st t => ∃ u : S, px u ∧ B E u t ∧ va_F A st t
section Runs
variable {p : Program} {l : Launch} {e : Env} {R : Room} {s : State} {m : MethodId} {args : Array Value} {below : List Frame} {meth : Method} {c : Code} {H : Heap} {locs : List Loc} {cells slots : Nat}
variable {y : MethodName} {bytes cc : ByteArray} {maxL nL mc ms n index : Nat} {ret : Option FieldType} {ws : List Cond} {rm : Room} {Pc : Array Value → State → Prop} {Qc : Array Value → State → Outcome → State → Prop} {XC : String → State → State → Prop} {free : Addr → Prop} {Ts : List Cond} {own C : String} {b : Addr} {As rest : List Value} {g : JFrame}
theorem vx_callBack (cb : CallB R s args own index y bytes maxL ret ws rm mc ms n) (hM : vx_Met l y ws rm Pc Qc XC mc ms free) (hbl : FrameBlind Pc) : vx_Back l R p e below s args y 3 8 (PreOf R mc ms Pc) (PostOf Qc mc ms free) (vx_Post XC mc ms free) := by
  obtain ⟨hrc, hrs, hfr, hlo, hws, hcw, -, hini, -⟩ := cb
  exact vx_back (bytes := bytes) (maxL := maxL) (ret := ret) hM hbl hrc hrs hfr hlo hws hcw (fun a' U hW => word_at hW (Or.inl (by first | rfl | simp [Cond.onTables, Cond.keeps, Cond.steady])) hini)
theorem vx_runV (S : CallFix p m c cc nL s args Ts own) (hM : vx_Met l y ws rm Pc Qc XC mc ms free) (cw : CallW R s args own C index y bytes maxL ret ws rm mc ms n) (hp : PreV s H C b Pc As)
    (hg : g.method = m) (hn : As.length = n) (hsize : g.locals.size = nL) (hstack : g.stack = As.reverse ++ .ref b :: rest) (hW : 2 * g.monitorRoom + (rest.map fun v => v.category).sum ≤ 8) (hdg : decode cc g.pc = .ok (.invokevirtual index, 3)) (hf : cells + mc ≤ R.cells ∧ slots + ms ≤ R.slots) :
    vx_Run p l e R s m args below meth c H locs cells slots mc ms g rest (Qc (Value.ref b :: As).toArray) XC free := by
  have hK : vx_Back l R p e below s args y 3 8 (PreOf R mc ms Pc) (PostOf Qc mc ms free) (vx_Post XC mc ms free) := vx_callBack cw.1 hM hp.1
  obtain ⟨⟨-, -, -, -, -, -, hcode, -, hy, hlen, hl⟩, hin, hse⟩ := cw
  obtain ⟨hx, hb, hml, ho, -⟩ := S
  obtain ⟨-, ⟨cellB, hcB, hoB, hclB⟩, hPc⟩ := hp
  intro T hT X
  rcases vx_callV X hx (C := C) (bytes := bytes) (maxL := maxL) (ret := ret) ho hl hin hse hcode hy hK (by rw [hT]; exact hcB) hoB hclB hg (hsize.trans hml.symm) (argsL := As) (rest := rest) (fun sig h => hn.trans (hlen sig h)) hstack hW (by rw [hb]; exact hdg)
    (fun vm₁ hW₁ => ⟨hf.1, hf.2, hPc (T.setVm vm₁) hT hW₁⟩) with ⟨v, vm₁, ⟨U', l2, c2, s2⟩, hW₁, X', ⟨g', mk, t, L, e1, e2, hq, h1, hL, h2, h3⟩, st⟩ | ⟨q, vm₁, ⟨U', l2, c2, s2⟩, hW₁, X', ⟨g', mk, t, L, E, ce, e1, e2, hq, hce, hcv, hcl, h1, hL, h2, h3⟩, st⟩
  · dsimp only [Pt.U, Pt.locs, Pt.cells, Pt.slots] at X' e1 e2 h1 h2 h3 st
    subst h1; subst h2; subst h3
    exact Or.inl ⟨v, (T.setVm vm₁).calling g' mk (Value.ref b :: As).toArray, t, U', L, hT, X', hL, e1, e2, hq, st⟩
  · dsimp only [Pt.U, Pt.locs, Pt.cells, Pt.slots] at X' e1 e2 h1 h2 h3 st hcl
    subst h1; subst h2; subst h3
    exact Or.inr ⟨q, (T.setVm vm₁).calling g' mk (Value.ref b :: As).toArray, t, U', L, E, ce, hT, X', hL, e1, e2, hq, hce, hcv, vx_cls hW₁ hcl, st⟩
theorem vx_runS (S : CallFix p m c cc nL s args Ts own) (hM : vx_Met l y ws rm Pc Qc XC mc ms free) (cw : CallB R s args own index y bytes maxL ret ws rm mc ms n ∧ (Cond.static y).before args s = true) (hp : PreS s H Pc As)
    (hg : g.method = m) (hn : As.length = n) (hsize : g.locals.size = nL) (hstack : g.stack = As.reverse ++ rest) (hW : 2 * g.monitorRoom + (rest.map fun v => v.category).sum ≤ 8) (hdg : decode cc g.pc = .ok (.invokestatic index, 3)) (hf : cells + mc ≤ R.cells ∧ slots + ms ≤ R.slots) :
    vx_Run p l e R s m args below meth c H locs cells slots mc ms g rest (Qc As.toArray) XC free := by
  have hK : vx_Back l R p e below s args y 3 8 (PreOf R mc ms Pc) (PostOf Qc mc ms free) (vx_Post XC mc ms free) := vx_callBack cw.1 hM hp.1
  obtain ⟨⟨-, -, -, -, -, -, hcode, hini, hy, hlen, hl⟩, hstt⟩ := cw
  obtain ⟨hx, hb, hml, ho, -⟩ := S
  intro T hT X
  rcases vx_callS X hx (bytes := bytes) (maxL := maxL) (ret := ret) ho hl hstt hini hcode hy hK hg (hsize.trans hml.symm) (argsL := As) (rest := rest) (fun sig h => hn.trans (hlen sig h)) hstack hW (by rw [hb]; exact hdg)
    (fun vm₁ hW₁ => ⟨hf.1, hf.2, hp.2 (T.setVm vm₁) hT hW₁⟩) with ⟨v, vm₁, ⟨U', l2, c2, s2⟩, hW₁, X', ⟨g', mk, t, L, e1, e2, hq, h1, hL, h2, h3⟩, st⟩ | ⟨q, vm₁, ⟨U', l2, c2, s2⟩, hW₁, X', ⟨g', mk, t, L, E, ce, e1, e2, hq, hce, hcv, hcl, h1, hL, h2, h3⟩, st⟩
  · dsimp only [Pt.U, Pt.locs, Pt.cells, Pt.slots] at X' e1 e2 h1 h2 h3 st
    subst h1; subst h2; subst h3
    exact Or.inl ⟨v, (T.setVm vm₁).calling g' mk As.toArray, t, U', L, hT, X', hL, e1, e2, hq, st⟩
  · dsimp only [Pt.U, Pt.locs, Pt.cells, Pt.slots] at X' e1 e2 h1 h2 h3 st hcl
    subst h1; subst h2; subst h3
    exact Or.inr ⟨q, (T.setVm vm₁).calling g' mk As.toArray, t, U', L, E, ce, hT, X', hL, e1, e2, hq, hce, hcv, vx_cls hW₁ hcl, st⟩
end Runs
section Rows
variable {p : Program} {l : Launch} {e : Env} {R : Room} {s : State} {m : MethodId} {args : Array Value} {below : List Frame} {meth : Method} {c : Code} {H : Heap} {locs : List Loc} {cells slots : Nat} {Q : State → Prop}
variable {mc ms : Nat} {free : Addr → Prop} {A0 A1 : Nat → Prop} {H0 : Heap} {a : Array Value} {pc : Nat} {ls : Array Slot} {st0 rest : List Value}
theorem vx_keep {st₀ t T' : State} {L : List Loc} (h0 : st₀.heap = H) (e1 : T'.heap = t.heap) (hS : va_S A0 H0 H locs) (hA : ∀ q, q < H.size → A1 q → A0 q) (hf : ∀ q, free q → A0 q) (hL : ∀ q ∈ L, free q.base) (hF : va_F A1 st₀ t) :
    H.size ≤ T'.heap.size ∧ (∀ q : Nat, q < H.size → ¬ A1 q → T'.heap[q]? = H[q]?) ∧ va_S A0 H0 T'.heap (locs ++ L) := by
  obtain ⟨hz, hk⟩ := hF
  rw [h0] at hz hk
  exact ⟨by rw [e1]; exact hz, fun q h1 h2 => by rw [e1]; exact hk q h1 h2,
    ⟨Nat.le_trans hS.1 (by rw [e1]; exact hz), fun q h1 h2 => by rw [e1, hk q (Nat.lt_of_lt_of_le h1 hS.1) (fun z => h2 (hA q (Nat.lt_of_lt_of_le h1 hS.1) z))]; exact hS.2.1 q h1 h2, fun q hq => by
      rcases List.mem_append.mp hq with h | h
      · exact hS.2.2 q h
      · exact hf _ (hL q h)⟩⟩
theorem vx_calli {S SX : Type} {post : Int32 → S → Prop} {px : SX → Prop} {B : S → State → Prop} {BX : String → SX → State → Prop} {AX : Nat → Prop} (hr : vx_Run p l e R s m args below meth c H locs cells slots mc ms (F0 m pc ls st0) rest (va_Qi post B A1 a) (vx_X px BX AX) free) (hS : va_S A0 H0 H locs) (hA : ∀ q, q < H.size → A1 q → A0 q) (hf : ∀ q, free q → A0 q) (hAX : ∀ q, q < H.size → AX q → A0 q)
    (kx : ∀ (E : String) (ce : Cell) (q9 : Addr) (u : SX) (t : State) (H1 : Heap) (locs1 : List Loc), t.heap = H1 → s.vm.Alike t.vm → px u → BX E u t → H.size ≤ H1.size → (∀ q : Nat, q < H.size → ¬ AX q → H1[q]? = H[q]?) → va_S A0 H0 H1 locs1 → H1[q9]? = some ce → ce.vm = .none → s.vm.findClass E = some ce.cls → vx_W p l e R s m args below meth c H1 locs1 (cells + mc) (slots + ms) Q (F0 m pc ls rest) q9)
    (kk : ∀ (r : Int32) (u : S) (t : State) (H1 : Heap) (locs1 : List Loc), t.heap = H1 → s.vm.Alike t.vm → post r u → B u t → H.size ≤ H1.size → (∀ q : Nat, q < H.size → ¬ A1 q → H1[q]? = H[q]?) → va_S A0 H0 H1 locs1 → W p l e R s m args below meth c H1 locs1 (cells + mc) (slots + ms) Q (F0 m (pc + 3) ls (.int r :: rest))) : W p l e R s m args below meth c H locs cells slots Q (F0 m pc ls st0) := by
  intro T hT X
  rcases hr T hT X with ⟨v, st₀, t, T', L, h0, X', hL, e1, e2, ⟨⟨r, u, hv, hp, hb⟩, hF⟩, st⟩ | ⟨q, st₀, t, T', L, E, ce, h0, X', hL, e1, e2, ⟨u, hp, hb, hF⟩, hce, hcv, hcl, st⟩
  · cases hv
    obtain ⟨k1, k2, k3⟩ := vx_keep h0 e1 hS hA hf hL hF
    obtain ⟨t2, a1, b1⟩ := kk r u t T'.heap (locs ++ L) e1.symm (by rw [← e2]; exact X'.warmed.alike) hp hb k1 k2 k3 T' rfl X'
    exact ⟨t2, st t2 a1, b1⟩
  · obtain ⟨k1, k2, k3⟩ := vx_keep h0 e1 hS hAX hf hL hF
    obtain ⟨t2, a1, b1⟩ := kx E ce q u t T'.heap (locs ++ L) e1.symm (by rw [← e2]; exact X'.warmed.alike) hp hb k1 k2 k3 (by rw [e1]; exact hce) hcv hcl T' rfl X'
    exact ⟨t2, st.trans a1, b1⟩
theorem vx_calll {S SX : Type} {post : Int64 → S → Prop} {px : SX → Prop} {B : S → State → Prop} {BX : String → SX → State → Prop} {AX : Nat → Prop} (hr : vx_Run p l e R s m args below meth c H locs cells slots mc ms (F0 m pc ls st0) rest (va_Ql post B A1 a) (vx_X px BX AX) free) (hS : va_S A0 H0 H locs) (hA : ∀ q, q < H.size → A1 q → A0 q) (hf : ∀ q, free q → A0 q) (hAX : ∀ q, q < H.size → AX q → A0 q)
    (kx : ∀ (E : String) (ce : Cell) (q9 : Addr) (u : SX) (t : State) (H1 : Heap) (locs1 : List Loc), t.heap = H1 → s.vm.Alike t.vm → px u → BX E u t → H.size ≤ H1.size → (∀ q : Nat, q < H.size → ¬ AX q → H1[q]? = H[q]?) → va_S A0 H0 H1 locs1 → H1[q9]? = some ce → ce.vm = .none → s.vm.findClass E = some ce.cls → vx_W p l e R s m args below meth c H1 locs1 (cells + mc) (slots + ms) Q (F0 m pc ls rest) q9)
    (kk : ∀ (r : Int64) (u : S) (t : State) (H1 : Heap) (locs1 : List Loc), t.heap = H1 → s.vm.Alike t.vm → post r u → B u t → H.size ≤ H1.size → (∀ q : Nat, q < H.size → ¬ A1 q → H1[q]? = H[q]?) → va_S A0 H0 H1 locs1 → W p l e R s m args below meth c H1 locs1 (cells + mc) (slots + ms) Q (F0 m (pc + 3) ls (.long r :: rest))) : W p l e R s m args below meth c H locs cells slots Q (F0 m pc ls st0) := by
  intro T hT X
  rcases hr T hT X with ⟨v, st₀, t, T', L, h0, X', hL, e1, e2, ⟨⟨r, u, hv, hp, hb⟩, hF⟩, st⟩ | ⟨q, st₀, t, T', L, E, ce, h0, X', hL, e1, e2, ⟨u, hp, hb, hF⟩, hce, hcv, hcl, st⟩
  · cases hv
    obtain ⟨k1, k2, k3⟩ := vx_keep h0 e1 hS hA hf hL hF
    obtain ⟨t2, a1, b1⟩ := kk r u t T'.heap (locs ++ L) e1.symm (by rw [← e2]; exact X'.warmed.alike) hp hb k1 k2 k3 T' rfl X'
    exact ⟨t2, st t2 a1, b1⟩
  · obtain ⟨k1, k2, k3⟩ := vx_keep h0 e1 hS hAX hf hL hF
    obtain ⟨t2, a1, b1⟩ := kx E ce q u t T'.heap (locs ++ L) e1.symm (by rw [← e2]; exact X'.warmed.alike) hp hb k1 k2 k3 (by rw [e1]; exact hce) hcv hcl T' rfl X'
    exact ⟨t2, st.trans a1, b1⟩
theorem vx_callf {S SX : Type} {post : UInt32 → S → Prop} {px : SX → Prop} {B : S → State → Prop} {BX : String → SX → State → Prop} {AX : Nat → Prop} (hr : vx_Run p l e R s m args below meth c H locs cells slots mc ms (F0 m pc ls st0) rest (va_Qf post B A1 a) (vx_X px BX AX) free) (hS : va_S A0 H0 H locs) (hA : ∀ q, q < H.size → A1 q → A0 q) (hf : ∀ q, free q → A0 q) (hAX : ∀ q, q < H.size → AX q → A0 q)
    (kx : ∀ (E : String) (ce : Cell) (q9 : Addr) (u : SX) (t : State) (H1 : Heap) (locs1 : List Loc), t.heap = H1 → s.vm.Alike t.vm → px u → BX E u t → H.size ≤ H1.size → (∀ q : Nat, q < H.size → ¬ AX q → H1[q]? = H[q]?) → va_S A0 H0 H1 locs1 → H1[q9]? = some ce → ce.vm = .none → s.vm.findClass E = some ce.cls → vx_W p l e R s m args below meth c H1 locs1 (cells + mc) (slots + ms) Q (F0 m pc ls rest) q9)
    (kk : ∀ (r : UInt32) (u : S) (t : State) (H1 : Heap) (locs1 : List Loc), t.heap = H1 → s.vm.Alike t.vm → post r u → B u t → H.size ≤ H1.size → (∀ q : Nat, q < H.size → ¬ A1 q → H1[q]? = H[q]?) → va_S A0 H0 H1 locs1 → W p l e R s m args below meth c H1 locs1 (cells + mc) (slots + ms) Q (F0 m (pc + 3) ls (.float r :: rest))) : W p l e R s m args below meth c H locs cells slots Q (F0 m pc ls st0) := by
  intro T hT X
  rcases hr T hT X with ⟨v, st₀, t, T', L, h0, X', hL, e1, e2, ⟨⟨r, u, hv, hp, hb⟩, hF⟩, st⟩ | ⟨q, st₀, t, T', L, E, ce, h0, X', hL, e1, e2, ⟨u, hp, hb, hF⟩, hce, hcv, hcl, st⟩
  · cases hv
    obtain ⟨k1, k2, k3⟩ := vx_keep h0 e1 hS hA hf hL hF
    obtain ⟨t2, a1, b1⟩ := kk r u t T'.heap (locs ++ L) e1.symm (by rw [← e2]; exact X'.warmed.alike) hp hb k1 k2 k3 T' rfl X'
    exact ⟨t2, st t2 a1, b1⟩
  · obtain ⟨k1, k2, k3⟩ := vx_keep h0 e1 hS hAX hf hL hF
    obtain ⟨t2, a1, b1⟩ := kx E ce q u t T'.heap (locs ++ L) e1.symm (by rw [← e2]; exact X'.warmed.alike) hp hb k1 k2 k3 (by rw [e1]; exact hce) hcv hcl T' rfl X'
    exact ⟨t2, st.trans a1, b1⟩
theorem vx_calld {S SX : Type} {post : UInt64 → S → Prop} {px : SX → Prop} {B : S → State → Prop} {BX : String → SX → State → Prop} {AX : Nat → Prop} (hr : vx_Run p l e R s m args below meth c H locs cells slots mc ms (F0 m pc ls st0) rest (va_Qd post B A1 a) (vx_X px BX AX) free) (hS : va_S A0 H0 H locs) (hA : ∀ q, q < H.size → A1 q → A0 q) (hf : ∀ q, free q → A0 q) (hAX : ∀ q, q < H.size → AX q → A0 q)
    (kx : ∀ (E : String) (ce : Cell) (q9 : Addr) (u : SX) (t : State) (H1 : Heap) (locs1 : List Loc), t.heap = H1 → s.vm.Alike t.vm → px u → BX E u t → H.size ≤ H1.size → (∀ q : Nat, q < H.size → ¬ AX q → H1[q]? = H[q]?) → va_S A0 H0 H1 locs1 → H1[q9]? = some ce → ce.vm = .none → s.vm.findClass E = some ce.cls → vx_W p l e R s m args below meth c H1 locs1 (cells + mc) (slots + ms) Q (F0 m pc ls rest) q9)
    (kk : ∀ (r : UInt64) (u : S) (t : State) (H1 : Heap) (locs1 : List Loc), t.heap = H1 → s.vm.Alike t.vm → post r u → B u t → H.size ≤ H1.size → (∀ q : Nat, q < H.size → ¬ A1 q → H1[q]? = H[q]?) → va_S A0 H0 H1 locs1 → W p l e R s m args below meth c H1 locs1 (cells + mc) (slots + ms) Q (F0 m (pc + 3) ls (.double r :: rest))) : W p l e R s m args below meth c H locs cells slots Q (F0 m pc ls st0) := by
  intro T hT X
  rcases hr T hT X with ⟨v, st₀, t, T', L, h0, X', hL, e1, e2, ⟨⟨r, u, hv, hp, hb⟩, hF⟩, st⟩ | ⟨q, st₀, t, T', L, E, ce, h0, X', hL, e1, e2, ⟨u, hp, hb, hF⟩, hce, hcv, hcl, st⟩
  · cases hv
    obtain ⟨k1, k2, k3⟩ := vx_keep h0 e1 hS hA hf hL hF
    obtain ⟨t2, a1, b1⟩ := kk r u t T'.heap (locs ++ L) e1.symm (by rw [← e2]; exact X'.warmed.alike) hp hb k1 k2 k3 T' rfl X'
    exact ⟨t2, st t2 a1, b1⟩
  · obtain ⟨k1, k2, k3⟩ := vx_keep h0 e1 hS hAX hf hL hF
    obtain ⟨t2, a1, b1⟩ := kx E ce q u t T'.heap (locs ++ L) e1.symm (by rw [← e2]; exact X'.warmed.alike) hp hb k1 k2 k3 (by rw [e1]; exact hce) hcv hcl T' rfl X'
    exact ⟨t2, st.trans a1, b1⟩
theorem vx_callv {S SX : Type} {post : S → Prop} {px : SX → Prop} {B : S → State → Prop} {BX : String → SX → State → Prop} {AX : Nat → Prop} (hr : vx_Run p l e R s m args below meth c H locs cells slots mc ms (F0 m pc ls st0) rest (va_Qv post B A1 a) (vx_X px BX AX) free) (hS : va_S A0 H0 H locs) (hA : ∀ q, q < H.size → A1 q → A0 q) (hf : ∀ q, free q → A0 q) (hAX : ∀ q, q < H.size → AX q → A0 q)
    (kx : ∀ (E : String) (ce : Cell) (q9 : Addr) (u : SX) (t : State) (H1 : Heap) (locs1 : List Loc), t.heap = H1 → s.vm.Alike t.vm → px u → BX E u t → H.size ≤ H1.size → (∀ q : Nat, q < H.size → ¬ AX q → H1[q]? = H[q]?) → va_S A0 H0 H1 locs1 → H1[q9]? = some ce → ce.vm = .none → s.vm.findClass E = some ce.cls → vx_W p l e R s m args below meth c H1 locs1 (cells + mc) (slots + ms) Q (F0 m pc ls rest) q9)
    (kk : ∀ (u : S) (t : State) (H1 : Heap) (locs1 : List Loc), t.heap = H1 → s.vm.Alike t.vm → post u → B u t → H.size ≤ H1.size → (∀ q : Nat, q < H.size → ¬ A1 q → H1[q]? = H[q]?) → va_S A0 H0 H1 locs1 → W p l e R s m args below meth c H1 locs1 (cells + mc) (slots + ms) Q (F0 m (pc + 3) ls (rest))) : W p l e R s m args below meth c H locs cells slots Q (F0 m pc ls st0) := by
  intro T hT X
  rcases hr T hT X with ⟨v, st₀, t, T', L, h0, X', hL, e1, e2, ⟨⟨u, hv, hp, hb⟩, hF⟩, st⟩ | ⟨q, st₀, t, T', L, E, ce, h0, X', hL, e1, e2, ⟨u, hp, hb, hF⟩, hce, hcv, hcl, st⟩
  · cases hv
    obtain ⟨k1, k2, k3⟩ := vx_keep h0 e1 hS hA hf hL hF
    obtain ⟨t2, a1, b1⟩ := kk u t T'.heap (locs ++ L) e1.symm (by rw [← e2]; exact X'.warmed.alike) hp hb k1 k2 k3 T' rfl X'
    exact ⟨t2, st t2 a1, b1⟩
  · obtain ⟨k1, k2, k3⟩ := vx_keep h0 e1 hS hAX hf hL hF
    obtain ⟨t2, a1, b1⟩ := kx E ce q u t T'.heap (locs ++ L) e1.symm (by rw [← e2]; exact X'.warmed.alike) hp hb k1 k2 k3 (by rw [e1]; exact hce) hcv hcl T' rfl X'
    exact ⟨t2, st.trans a1, b1⟩
/-- caught by the row x of this method's table; the rows ahead don't take it -/
theorem vx_catch {own name : String} {E : String} {ce : Cell} {q : Addr} (hown : s.vm.findClass own = some m.cls) (pre : List ExceptionTableEntry) (x : ExceptionTableEntry) (suf : List ExceptionTableEntry) (hsplit : c.exceptionTable.toList = pre ++ x :: suf)
    (hpass : ∀ z ∈ pre, covers z pc = false ∨ (z.catchType ≠ 0 ∧ ∃ nm : String, (Cond.classLink own z.catchType nm).before args s = true ∧ va_Nc E nm s)) (hx : covers x pc = true) (h0 : x.catchType ≠ 0)
    (hlink : (Cond.classLink own x.catchType name).before args s = true) (hcast : (Cond.castable E name).before args s = true) (hcell : H[q]? = some ce) (hv : ce.vm = .none) (hcl : s.vm.findClass E = some ce.cls)
    (kk : W p l e R s m args below meth c H locs cells slots Q (F0 m x.handlerPc ls [.ref q])) : vx_W p l e R s m args below meth c H locs cells slots Q (F0 m pc ls rest) q := by
  intro T hT X
  have hpl : e.platform.magicAccessors = ({} : Platform).magicAccessors := by rw [X.admits.platform]
  obtain ⟨c3, c4, hc3, hc4, hasg⟩ := Cond.castable_spec hcast
  cases Option.some.inj (hc3.symm.trans hcl)
  obtain ⟨c5, hc5, hcl5⟩ := Cond.classLink_spec hown hlink e.platform hpl
  cases Option.some.inj (hc4.symm.trans hc5)
  obtain ⟨vm', X', st⟩ := X.thenCaughtThrough q (g := F0 m pc ls rest) rfl (Steps.refl _) (by rw [hT]; exact hcell) (by rw [hv]; rfl) (by obtain ⟨k9, h9, -⟩ := Vm.findClass_spec hcl; exact ⟨k9, h9⟩) pre x suf hsplit
    (fun z hz => by
      rcases hpass z hz with h | ⟨hz0, nm, hl1, hn1⟩
      · exact Or.inl h
      · obtain ⟨c6, hc6, hcl6⟩ := Cond.classLink_spec hown hl1 e.platform hpl
        obtain ⟨a8, b8, h1, h2, h3⟩ := hn1
        cases Option.some.inj (h1.symm.trans hcl)
        cases Option.some.inj (h2.symm.trans hc6)
        exact Or.inr ⟨hz0, _, hcl6, h3⟩) hx (Or.inr ⟨h0, c4, hcl5, hasg⟩)
  obtain ⟨t, a1, b1⟩ := kk (T.setVm vm') hT X'
  exact ⟨t, st.trans a1, b1⟩
end Rows
section Ends
variable {p : Program} {l : Launch} {e : Env} {R : Room} {s : State} {m : MethodId} {args : Array Value} {below : List Frame} {meth : Method} {c : Code} {H : Heap} {locs : List Loc} {cells slots : Nat} {Q : State → Prop}
variable {mc ms : Nat} {free : Addr → Prop} {A0 A1 : Nat → Prop} {H0 : Heap} {a : Array Value} {ls : Array Slot} {st0 rest : List Value}
variable {Qc : Array Value → State → Outcome → State → Prop} {XC : String → State → State → Prop}
/-- what a body that may throw owes at its end -/
def vx_MQ (below : List Frame) (Qc : Array Value → State → Outcome → State → Prop) (XC : String → State → State → Prop) (a : Array Value) (s : State) (mc ms : Nat) (free : Addr → Prop) : State → Prop := fun t =>
  ∃ o, t.status = .running ∧ Ended t below o ∧ vx_Q Qc XC mc ms free a s o t
theorem vx_ret {g : JFrame} {mc ms : Nat} (k : W p l e R s m args below meth c H locs cells slots (MQ below Qc args s mc ms free) g) : W p l e R s m args below meth c H locs cells slots (vx_MQ below Qc XC args s mc ms free) g := by
  intro T hT X
  obtain ⟨t, a1, o, b1, b2, b3, b4⟩ := k T hT X
  exact ⟨t, a1, o, b1, b2, Or.inl ⟨b3, b4⟩⟩
/-- not caught here: it goes on to the caller -/
theorem vx_widen {g : JFrame} {q : Addr} {k n : Nat} (h1 : cells ≤ k) (h2 : slots ≤ n) (kk : vx_W p l e R s m args below meth c H locs k n Q g q) : vx_W p l e R s m args below meth c H locs cells slots Q g q := fun T hT X => kk T hT (stand_widen X h1 h2)
theorem vx_out {pc : Nat} {E : String} {ce : Cell} {q : Addr} {mc ms : Nat} (hout : ∀ x ∈ c.exceptionTable.toList, covers x pc = false) (hlocks : meth.locks = false) (hcell : H[q]? = some ce) (hv : ce.vm = .none) (hcl : s.vm.findClass E = some ce.cls)
    (hx : ∀ t : State, t.heap = H → s.vm.Alike t.vm → XC E s t) (hf : ∀ z ∈ locs, free z.base) (hc : cells ≤ mc) (hs : slots ≤ ms) :
    vx_W p l e R s m args below meth c H locs cells slots (vx_MQ below Qc XC args s mc ms free) (F0 m pc ls rest) q := by
  intro T hT X
  obtain ⟨st1, hrun, hend, hW, hsm⟩ := X.leaveThrown q (g := F0 m pc ls rest) rfl rfl rfl hout hlocks
  have hcell9 : (T.setFrames (.throwing q :: below)).heap[q]? = some ce := by
    show T.heap[q]? = some ce
    rw [hT]; exact hcell
  exact ⟨_, st1, .threw q, hrun, hend, Or.inr ⟨q, rfl, E, ce, locs, hx _ hT hW.alike, hcell9, hv, hcl, hW, hsm.mono hc hs, hf⟩⟩
theorem vx_frame {U : State} {k n : Nat} (h : s.sameButNew ({ U with vm := s.vm } : State) locs k n) : s.heap.size ≤ U.heap.size ∧ ∀ q : Nat, q < s.heap.size → (∀ z ∈ locs, z.base ≠ q) → U.heap[q]? = s.heap[q]? := by
  obtain ⟨-, h2, -, -, -, h6⟩ := h
  refine ⟨h2, fun q hq hz => ?_⟩
  obtain ⟨c9, e1, e2, e3, e4⟩ := h6 q _ (Array.getElem?_eq_getElem hq)
  have hs : c9.slots = (s.heap[q]).slots := Array.ext_getElem? fun i => e4 i fun hm => hz _ hm rfl
  have h9 : c9 = s.heap[q] := by
    rw [hs] at e2
    exact e2
  have e5 : U.heap[q]? = some c9 := e1
  rw [e5, h9, Array.getElem?_eq_getElem hq]
/-- the words of a throw but the four that speak of the heap -/
def vx_no (w : Cond) : Bool := decide (w ≠ .isRef (.static Bundle.tN "UNASSIGNED_STACK" Bundle.steD)) && decide (w ≠ .isRef (.static Bundle.tN "SUPPRESSED_SENTINEL" Bundle.listD)) && decide (w ≠ .laysStatic Bundle.tN "UNASSIGNED_STACK" Bundle.steD) && decide (w ≠ .laysStatic Bundle.tN "SUPPRESSED_SENTINEL" Bundle.listD)
def vx_at0 (own : String) (ic : Nat) (X : String) (names : List String) : List Cond := (Bundle.ownAtoms0 own ic X names).filter vx_no
def vx_atS (own : String) (ic : Nat) (X : String) (names : List String) : List Cond := (Bundle.ownAtoms own ic X names).filter vx_no
/-- a word that the tables alone decide, or a good one -/
def vx_ot (w : Cond) : Bool := w.onTables || goodWord w
theorem vx_ot_at {args a' : Array Value} {s U : State} {w : Cond} (hW : s.WarmedH U.vm) (hvm : s.vm = U.vm) (hg : vx_ot w = true) (h : w.before args s = true) : w.before a' U = true := by
  simp only [vx_ot, Bool.or_eq_true] at hg
  rcases hg with hg | hg
  · exact va_tabs hg hvm h
  · exact word_at hW (good_of_word hg) h
/-- a list's words: the good ones out of the method's own list, the others by premises of their own -/
theorem vx_hat {args : Array Value} {s : State} {L B : List Cond} (h1 : ∀ w ∈ L.filter goodWord, w.before args s = true) (h2 : ∀ w ∈ L.filter (fun w => !goodWord w), w ∈ B) (h3 : ∀ w ∈ B, w.before args s = true) : ∀ w ∈ L, w.before args s = true := by
  intro w hw
  by_cases g : goodWord w = true
  · exact h1 w (List.mem_filter.mpr ⟨hw, g⟩)
  · refine h3 w (h2 w (List.mem_filter.mpr ⟨hw, ?_⟩))
    show (!goodWord w) = true
    cases hgw : goodWord w
    · rfl
    · exact absurd hgw g
theorem vx_c {args : Array Value} {s : State} {w : Cond} {B : List Cond} (h : w.before args s = true) (t : ∀ w ∈ B, w.before args s = true) : ∀ w' ∈ w :: B, w'.before args s = true := fun w' h' => (List.mem_cons.mp h').elim (fun e => by rw [e]; exact h) (t w')
theorem vx_n {args : Array Value} {s : State} : ∀ w ∈ ([] : List Cond), w.before args s = true := fun _ h => nomatch h
theorem vx_own {args : Array Value} {s : State} {L : List Cond} (h1 : ∀ w ∈ L.filter vx_no, w.before args s = true)
    (hU : (Cond.isRef (.static Bundle.tN "UNASSIGNED_STACK" Bundle.steD)).before args s = true) (hN : (Cond.isRef (.static Bundle.tN "SUPPRESSED_SENTINEL" Bundle.listD)).before args s = true)
    (lU : (Cond.laysStatic Bundle.tN "UNASSIGNED_STACK" Bundle.steD).before args s = true) (lN : (Cond.laysStatic Bundle.tN "SUPPRESSED_SENTINEL" Bundle.listD).before args s = true) : ∀ w ∈ L, w.before args s = true := by
  intro w hw
  by_cases e1 : w = .isRef (.static Bundle.tN "UNASSIGNED_STACK" Bundle.steD)
  · rw [e1]; exact hU
  · by_cases e2 : w = .isRef (.static Bundle.tN "SUPPRESSED_SENTINEL" Bundle.listD)
    · rw [e2]; exact hN
    · by_cases e3 : w = .laysStatic Bundle.tN "UNASSIGNED_STACK" Bundle.steD
      · rw [e3]; exact lU
      · by_cases e4 : w = .laysStatic Bundle.tN "SUPPRESSED_SENTINEL" Bundle.listD
        · rw [e4]; exact lN
        · exact h1 w (List.mem_filter.mpr ⟨hw, by unfold vx_no; rw [decide_eq_true e1, decide_eq_true e2, decide_eq_true e3, decide_eq_true e4]; rfl⟩)
/-- where a static field lies, its class's statics cell in H -/
def vx_L (C n d : String) (A : Nat → Prop) (U : State) (H : Heap) : Prop := ∃ (c : ClassId) (k : Class) (i : Nat) (f : Field) (a : Nat) (cell : Cell), U.vm.findClass C = some c ∧ U.fieldFound? C n d = some (c, k, i, f) ∧ f.isStatic = true ∧ k.statics = some a ∧ H[a]? = some cell ∧ cell.vm.isStatics = true ∧ cell.cls = c ∧ f.slot < cell.slots.size ∧ k.staticTypes[f.slot]? = some f.type ∧ ¬ A a
theorem vx_L.moved {C n d : String} {A : Nat → Prop} {u U : State} {H : Heap} (hvm : u.vm.Alike U.vm) (h : vx_L C n d A u H) : vx_L C n d A U H := by
  obtain ⟨c, k, i, f, a, cell, h1, h2, h3, h4, h5, h6, h7, h8, h9, h10⟩ := h
  obtain ⟨k', hi', he⟩ := State.fieldFound?_setVm hvm h2
  exact ⟨c, k', i, f, a, cell, by rw [hvm.findClass]; exact h1, hi', h3, by rw [he]; exact h4, h5, h6, h7, h8, by rw [he]; exact h9, h10⟩
theorem vx_L.kept {C n d : String} {A : Nat → Prop} {U : State} {H H1 : Heap} (h : vx_L C n d A U H) (hq : ∀ a : Nat, a < H.size → ¬ A a → H1[a]? = H[a]?) : vx_L C n d A U H1 := by
  obtain ⟨c, k, i, f, a, cell, h1, h2, h3, h4, h5, h6, h7, h8, h9, h10⟩ := h
  exact ⟨c, k, i, f, a, cell, h1, h2, h3, h4, by rw [hq a (Array.getElem?_eq_some_iff.mp h5).1 h10]; exact h5, h6, h7, h8, h9, h10⟩
theorem vx_L.narrow {C n d : String} {A B : Nat → Prop} {U : State} {H : Heap} (h : vx_L C n d A U H) (hAB : ∀ q, B q → A q) : vx_L C n d B U H := by
  obtain ⟨c, k, i, f, a, cell, h1, h2, h3, h4, h5, h6, h7, h8, h9, h10⟩ := h
  exact ⟨c, k, i, f, a, cell, h1, h2, h3, h4, h5, h6, h7, h8, h9, fun z => h10 (hAB _ z)⟩
theorem vx_L.word {C n d : String} {A : Nat → Prop} {s : State} {args : Array Value} (h : vx_L C n d A s s.heap) : (Cond.laysStatic C n d).before args s = true := by
  obtain ⟨c, k, i, f, a, cell, h1, h2, h3, h4, h5, h6, h7, h8, h9, -⟩ := h
  show (Cond.laysStatic C n d).holds args s none s [] = true
  exact Cond.laysStatic_of h1 h2 h3 h4 h5 h6 h7 h8 h9
/-- .. and what it holds: null or some reference -/
def vx_Zq (C n d : String) (A : Nat → Prop) (U : State) (H : Heap) : Prop := va_Zq C n d A U H ∧ vx_L C n d A U H
theorem vx_Zq.moved {C n d : String} {A : Nat → Prop} {u U : State} {H : Heap} (hvm : u.vm.Alike U.vm) (h : vx_Zq C n d A u H) : vx_Zq C n d A U H := ⟨va_Zq.moved hvm h.1, vx_L.moved hvm h.2⟩
theorem vx_Zq.kept {C n d : String} {A : Nat → Prop} {U : State} {H H1 : Heap} (h : vx_Zq C n d A U H) (hq : ∀ a : Nat, a < H.size → ¬ A a → H1[a]? = H[a]?) : vx_Zq C n d A U H1 := ⟨va_Zq.kept h.1 hq, vx_L.kept h.2 hq⟩
theorem vx_Zq.narrow {C n d : String} {A B : Nat → Prop} {U : State} {H : Heap} (h : vx_Zq C n d A U H) (hAB : ∀ q, B q → A q) : vx_Zq C n d B U H := ⟨va_Zq.narrow h.1 hAB, vx_L.narrow h.2 hAB⟩
theorem vx_Zqof {args : Array Value} {s : State} {C n d : String} {A : Nat → Prop} (hl : (Cond.laysStatic C n d).before args s = true) (hini : (Cond.initialized C).before args s = true) (h : (Cond.isRef (.static C n d)).before args s = true) (hA : ∀ a : Nat, a < s.heap.size → ¬ A a) : vx_Zq C n d A s s.heap := by
  refine ⟨va_Zqof hl hini h hA, ?_⟩
  obtain ⟨c, k, i, f, a, cell, h1, h2, h3, h4, h5, h6, h7, h8, h9⟩ := Cond.laysStatic_spec hl
  exact ⟨c, k, i, f, a, cell, h1, h2, h3, h4, h5, h6, h7, h8, h9, hA a (Array.getElem?_eq_some_iff.mp h5).1⟩
theorem vx_isRef {C n d : String} {v : Value} {A : Nat → Prop} {s : State} {args : Array Value} (h : va_Z C n d v A s s.heap) (hv : v.isRef = true) : (Cond.isRef (.static C n d)).before args s = true := by
  obtain ⟨cf, kf, fi, f, a, cell, h1, h2, h3, h4, h5, h6, h7, -⟩ := h
  have he : (Term.static C n d).eval args s none [] s = some v := by
    simp [Term.eval, State.fieldNamed?, h1, h2, h4, h5, h6, h7]
  simp only [Cond.before, Cond.holds, Cond.value, he]
  cases v <;> simp_all [Value.isRef]
theorem vx_isRefq {C n d : String} {A : Nat → Prop} {s : State} {args : Array Value} (h : va_Zq C n d A s s.heap) : (Cond.isRef (.static C n d)).before args s = true := by
  rcases h with h | ⟨t, h⟩
  · exact vx_isRef h rfl
  · exact vx_isRef h rfl
/-- the same frame, seen from here: as if the method were called anew in this heap -/
theorem vx_rebase {T : State} (X : Stand p l e R s m args below meth c T locs cells slots) {R' : Room} (hf : R'.frames ≤ R.frames) (hl : R'.locals ≤ R.locals) (hc : cells + R'.cells ≤ R.cells) (hs : slots + R'.slots ≤ R.slots) :
    Stand p l e R' ((T.setVm s.vm).setFrames (.invoking m args :: below)) m args below meth c T [] 0 0 := by
  have htop : (T.setVm s.vm).topJava?.isSome := X.here.top
  have hF : ((T.setVm s.vm).setFrames (.invoking m args :: below)).frames = .invoking m args :: below := State.frames_setFrames _ (State.cur_lt_of_top htop)
  obtain ⟨g₀, hg0⟩ := Option.isSome_iff_exists.mp htop
  obtain ⟨r, hr⟩ := State.topJava?_eq_some.mp hg0
  have hl9 : e.platform.stackLimits (T.setVm s.vm).me = e.platform.stackLimits s.me := X.limits
  have hb9 : (T.setVm s.vm).me.stackBytes = s.me.stackBytes := X.bytes
  refine ⟨X.admits, X.cas, X.clock, hF, ?_, X.hears, X.method, X.code, X.here, X.tail, X.warmed, ?_, ?_, ?_⟩
  · have h := X.room
    have hU : ((T.setVm s.vm).setFrames (.invoking m args :: below)).localsInUse = s.localsInUse := by
      rw [State.localsInUse_invoking hF (meth := meth) (c := c) X.method X.code, State.localsInUse_invoking X.frames X.method X.code]
    simp only [State.hasRoom, Bool.and_eq_true, decide_eq_true_eq] at h ⊢
    obtain ⟨⟨⟨⟨h1, h2, h3, h4, h5, h6⟩, h7⟩, h8⟩, h9⟩ := h
    rw [X.frames, List.length_cons] at h2 h3
    have q1 := X.heapSize
    have q2 := X.used
    simp only [hF, hU, List.length_cons, State.stackLimits_setFrames, State.stackBytes_setFrames, hl9, hb9]
    refine ⟨⟨⟨⟨by omega, by omega, by omega, by omega, by omega, h6⟩, ?_⟩, ?_⟩, X.book⟩
    · show T.heap.size + R'.cells ≤ e.platform.maxCells
      omega
    · show T.slotsUsed + R'.slots ≤ e.platform.maxSlots
      omega
  · rw [State.stackLimits_setFrames]; rfl
  · rw [State.stackBytes_setFrames]; rfl
  · refine ⟨?_, Nat.le_refl _, Nat.le_refl _, ?_, ?_, fun a c9 h9 => ⟨c9, h9, rfl, rfl, fun _ _ => rfl⟩⟩
    · obtain ⟨t, ht, -⟩ := State.frames_cons hr
      show T.setVm s.vm = { ((T.setVm s.vm).setFrames (.invoking m args :: below)).setFrames (T.setVm s.vm).frames with heap := T.heap, slotsUsed := T.slotsUsed }
      rw [State.setFrames_setFrames, State.setFrames_self ht]
      rfl
    · show T.slotsUsed = T.slotsUsed + ((T.heap.toList.drop T.heap.size).map (·.slots.size)).sum
      rw [List.drop_eq_nil_of_le (Nat.le_of_eq Array.length_toList)]
      rfl
    · show ((T.heap.toList.drop T.heap.size).map (·.slots.size)).sum ≤ 0
      rw [List.drop_eq_nil_of_le (Nat.le_of_eq Array.length_toList)]
      exact Nat.le_refl _
/-- 'throw new E()': new; dup; invokespecial; athrow -/
theorem vx_throw0 {cc : ByteArray} {pc : Nat} (hexec : p.tables.exec = Jvm.exec) (hb : c.code = cc) (hl : l.stackTraces = false) {own cls : String} {names : List String} {ik ic mc ms : Nat} {A : Nat → Prop}
    (hown : s.vm.findClass own = some m.cls) (hcls : Bundle.fit cls = true) (hnames : ∀ n ∈ names, Bundle.fit n = true)
    (hk : (Cond.classLink own ik cls).before args s = true) (hini : (Cond.initialized cls).before args s = true) (hat : ∀ w ∈ vx_at0 own ic cls names, w.before args s = true)
    (hgood : ∀ w ∈ Cond.classLink own ik cls :: Cond.initialized cls :: vx_at0 own ic cls names, vx_ot w = true)
    (hU : vx_Zq Bundle.tN "UNASSIGNED_STACK" Bundle.steD A s s.heap) (hN : vx_Zq Bundle.tN "SUPPRESSED_SENTINEL" Bundle.listD A s s.heap) (hS : va_S A s.heap H locs) (hsize : ls.size = c.maxLocals)
    (d0 : decode cc pc = .ok (.new ik, 3)) (d3 : decode cc (pc + 3) = .ok (.dup, 1)) (d4 : decode cc (pc + 4) = .ok (.invokespecial ic, 3)) (d7 : decode cc (pc + 7) = .ok (.athrow, 1))
    (hout : ∀ x ∈ c.exceptionTable.toList, covers x (pc + 7) = false)
    (hRframes : names.length + 3 < R.frames) (hRlocals : (rest.map fun v => v.category).sum + (13 * (names.length + 1) + 42) ≤ R.locals) (hRcells : cells + 1 ≤ R.cells) (hRslots : slots + 6 ≤ R.slots) (hlocks : meth.locks = false)
    (hx : ∀ t : State, s.vm.Alike t.vm → H.size ≤ t.heap.size → (∀ q : Nat, q < H.size → t.heap[q]? = H[q]?) → XC cls s t)
    (hf : ∀ z ∈ locs, free z.base) (hc : cells + 1 ≤ mc) (hs : slots + 6 ≤ ms) :
    W p l e R s m args below meth c H locs cells slots (vx_MQ below Qc XC args s mc ms free) (F0 m pc ls rest) := by
  intro T hT X
  have htr : e.platform.stackTraces = false := (show e.platform.stackTraces = l.stackTraces by rw [X.admits.platform]).trans hl
  have Y := vx_rebase X (R' := { frames := R.frames, locals := R.locals, cells := 1, slots := 6 }) (Nat.le_refl _) (Nat.le_refl _) hRcells hRslots
  obtain ⟨s', hA⟩ : ∃ z, z = (T.setVm s.vm).setFrames (.invoking m args :: below) := ⟨_, rfl⟩
  rw [← hA] at Y
  have hvm : s'.vm = s.vm := by rw [hA]; rfl
  have hhp : s'.heap = H := by rw [hA]; exact hT
  have hW0 : s.WarmedH s'.vm := by rw [hvm]; exact State.WarmedH.refl s
  have hat' : ∀ w ∈ vx_at0 own ic cls names, w.before args s' = true := fun w hw => vx_ot_at hW0 hvm.symm (hgood w (List.mem_cons_of_mem _ (List.mem_cons_of_mem _ hw))) (hat w hw)
  have hk' : (Cond.classLink own ik cls).before args s' = true := vx_ot_at hW0 hvm.symm (hgood _ List.mem_cons_self) hk
  have hini' : (Cond.initialized cls).before args s' = true := vx_ot_at hW0 hvm.symm (hgood _ (List.mem_cons_of_mem _ List.mem_cons_self)) hini
  have hU' : vx_Zq Bundle.tN "UNASSIGNED_STACK" Bundle.steD A s' s'.heap := by rw [hhp]; exact vx_Zq.moved hW0.alike (hU.kept hS.2.1)
  have hN' : vx_Zq Bundle.tN "SUPPRESSED_SENTINEL" Bundle.listD A s' s'.heap := by rw [hhp]; exact vx_Zq.moved hW0.alike (hN.kept hS.2.1)
  have h : ∀ w ∈ Bundle.ownAtoms0 own ic cls names, w.before args s' = true := vx_own hat' (vx_isRefq hU'.1) (vx_isRefq hN'.1) hU'.2.word hN'.2.word
  have hown' : s'.vm.findClass own = some m.cls := by rw [hvm]; exact hown
  have hins : (Cond.instantiable cls 6).before args s' = true := h _ (by simp [Bundle.ownAtoms0])
  obtain ⟨vm₁, cX, kX, hfX, hkX, -, -, X₁, st1⟩ := Y.newCold hexec (own := own) (C := cls) (index := ik) (n := 6) hown' hk' hins hini'
    (g := F0 m pc ls rest) rfl (by rw [hb]; exact d0) (Nat.le_refl _) (Nat.le_refl _)
  generalize hT1 : (T.setVm vm₁).pushCell { cls := cX, slots := kX.instanceTypes.map defaultValue, vm := .none } = T1 at X₁ st1
  have hcat : (Value.ref T.heap.size).category = 1 := rfl
  have hcellA : T1.heap[T.heap.size]? = some (freshCell cX kX) := by rw [← hT1]; exact State.heap_pushCell_size _ _
  have d3' : decode c.code (pc + 3) = .ok (.dup, 1) := by rw [hb]; exact d3
  obtain ⟨U, hsteps, hrun, hend, hW, hsame, ce, hce, hO⟩ := X₁.ctorThrow0 hexec htr (own := own) (cls := cls) (names := names) (ic := ic) hown' hcls hnames h (fun x hx => nomatch hx) hfX hkX hcellA (by rw [hhp, hT]; exact Nat.le_refl _)
    (g := { method := m, pc := pc + 4, locals := ls, stack := .ref T.heap.size :: .ref T.heap.size :: rest, locked := none }) rfl hsize rfl rfl (rest := rest) rfl
    (by rw [hb]; exact d4) (by rw [hb]; exact d7) hout hRframes (by simp only [List.map_cons, List.sum_cons, hcat]; omega) hlocks
  obtain ⟨f1, f2⟩ := vx_frame hsame
  rw [hhp] at f1 f2
  have hWs : s.WarmedH U.vm := State.WarmedH.trans hW0 hW
  have hcl : s.vm.findClass cls = some ce.cls := by
    have h9 := hO.cls
    rw [hvm] at h9
    exact h9
  have hall : s.sameButNew ({ U with vm := s.vm } : State) locs mc ms := by
    subst hA
    obtain ⟨e1, e2⟩ := hsame
    rw [State.setFrames_setFrames] at e1
    have h2 : (T.setVm s.vm).sameButNew ({ U with vm := s.vm } : State) [] (0 + 1) (0 + 6) := ⟨e1, e2⟩
    have h3 := X.same.trans h2
    rw [List.append_nil] at h3
    exact h3.mono hc hs
  refine ⟨U, ?_, .threw T.heap.size, hrun, hend, Or.inr ⟨T.heap.size, rfl, cls, ce, locs, hx U hWs.alike f1 (fun q hq => f2 q hq (fun z hz => nomatch hz)), hce, hO.vm, hcl, hWs, hall, hf⟩⟩
  refine st1 _ ?_
  show Steps p.tables e below (T1.setTop { method := m, pc := pc + 3, locals := ls, stack := .ref T.heap.size :: rest, locked := none }) _
  jvm_step X₁.here [X₁.here.top, hexec, d3', Value.category]
  exact hsteps
/-- 'throw new E("text")': new; dup; ldc; invokespecial; athrow -/
theorem vx_throwS {cc : ByteArray} {pc : Nat} (hexec : p.tables.exec = Jvm.exec) (hb : c.code = cc) (hl : l.stackTraces = false) {own cls text : String} {names : List String} {ik is ic mc ms sa : Nat} {A : Nat → Prop}
    (hown : s.vm.findClass own = some m.cls) (hcls : Bundle.fit cls = true) (hnames : ∀ n ∈ names, Bundle.fit n = true)
    (hk : (Cond.classLink own ik cls).before args s = true) (hini : (Cond.initialized cls).before args s = true) (hstr : vk_R own is text sa s) (hat : ∀ w ∈ vx_atS own ic cls names, w.before args s = true)
    (hgood : ∀ w ∈ Cond.classLink own ik cls :: Cond.initialized cls :: vx_atS own ic cls names, vx_ot w = true)
    (hU : vx_Zq Bundle.tN "UNASSIGNED_STACK" Bundle.steD A s s.heap) (hN : vx_Zq Bundle.tN "SUPPRESSED_SENTINEL" Bundle.listD A s s.heap) (hS : va_S A s.heap H locs) (hsize : ls.size = c.maxLocals)
    (d0 : decode cc pc = .ok (.new ik, 3)) (d3 : decode cc (pc + 3) = .ok (.dup, 1)) (d4 : decode cc (pc + 4) = .ok (.ldc is, 2)) (d6 : decode cc (pc + 6) = .ok (.invokespecial ic, 3)) (d9 : decode cc (pc + 9) = .ok (.athrow, 1))
    (hout : ∀ x ∈ c.exceptionTable.toList, covers x (pc + 9) = false)
    (hRframes : names.length + 3 < R.frames) (hRlocals : (rest.map fun v => v.category).sum + (13 * (names.length + 1) + 43) ≤ R.locals) (hRcells : cells + 1 ≤ R.cells) (hRslots : slots + 6 ≤ R.slots) (hlocks : meth.locks = false)
    (hx : ∀ t : State, s.vm.Alike t.vm → H.size ≤ t.heap.size → (∀ q : Nat, q < H.size → t.heap[q]? = H[q]?) → XC cls s t)
    (hf : ∀ z ∈ locs, free z.base) (hc : cells + 1 ≤ mc) (hs : slots + 6 ≤ ms) :
    W p l e R s m args below meth c H locs cells slots (vx_MQ below Qc XC args s mc ms free) (F0 m pc ls rest) := by
  intro T hT X
  have htr : e.platform.stackTraces = false := (show e.platform.stackTraces = l.stackTraces by rw [X.admits.platform]).trans hl
  have Y := vx_rebase X (R' := { frames := R.frames, locals := R.locals, cells := 1, slots := 6 }) (Nat.le_refl _) (Nat.le_refl _) hRcells hRslots
  obtain ⟨s', hA⟩ : ∃ z, z = (T.setVm s.vm).setFrames (.invoking m args :: below) := ⟨_, rfl⟩
  rw [← hA] at Y
  have hvm : s'.vm = s.vm := by rw [hA]; rfl
  have hhp : s'.heap = H := by rw [hA]; exact hT
  have hW0 : s.WarmedH s'.vm := by rw [hvm]; exact State.WarmedH.refl s
  have hat' : ∀ w ∈ vx_atS own ic cls names, w.before args s' = true := fun w hw => vx_ot_at hW0 hvm.symm (hgood w (List.mem_cons_of_mem _ (List.mem_cons_of_mem _ hw))) (hat w hw)
  have hk' : (Cond.classLink own ik cls).before args s' = true := vx_ot_at hW0 hvm.symm (hgood _ List.mem_cons_self) hk
  have hini' : (Cond.initialized cls).before args s' = true := vx_ot_at hW0 hvm.symm (hgood _ (List.mem_cons_of_mem _ List.mem_cons_self)) hini
  have hU' : vx_Zq Bundle.tN "UNASSIGNED_STACK" Bundle.steD A s' s'.heap := by rw [hhp]; exact vx_Zq.moved hW0.alike (hU.kept hS.2.1)
  have hN' : vx_Zq Bundle.tN "SUPPRESSED_SENTINEL" Bundle.listD A s' s'.heap := by rw [hhp]; exact vx_Zq.moved hW0.alike (hN.kept hS.2.1)
  have h : ∀ w ∈ Bundle.ownAtoms own ic cls names, w.before args s' = true := vx_own hat' (vx_isRefq hU'.1) (vx_isRefq hN'.1) hU'.2.word hN'.2.word
  have hown' : s'.vm.findClass own = some m.cls := by rw [hvm]; exact hown
  have hins : (Cond.instantiable cls 6).before args s' = true := h _ (by simp [Bundle.ownAtoms])
  obtain ⟨vm₁, cX, kX, hfX, hkX, -, -, X₁, st1⟩ := Y.newCold hexec (own := own) (C := cls) (index := ik) (n := 6) hown' hk' hins hini'
    (g := F0 m pc ls rest) rfl (by rw [hb]; exact d0) (Nat.le_refl _) (Nat.le_refl _)
  generalize hT1 : (T.setVm vm₁).pushCell { cls := cX, slots := kX.instanceTypes.map defaultValue, vm := .none } = T1 at X₁ st1
  have hcat : (Value.ref T.heap.size).category = 1 := rfl
  have hcellA : T1.heap[T.heap.size]? = some (freshCell cX kX) := by rw [← hT1]; exact State.heap_pushCell_size _ _
  have d3' : decode c.code (pc + 3) = .ok (.dup, 1) := by rw [hb]; exact d3
  have d4' : decode c.code (pc + 4) = .ok (.ldc is, 2) := by rw [hb]; exact d4
  have hstr' : vk_R own is text sa s' := vk_R.warm hW0 hstr
  obtain ⟨U, hsteps, hrun, hend, hW, hsame, ce, hce, hO⟩ := X₁.ctorThrowS hexec htr (own := own) (cls := cls) (names := names) (ic := ic) hown' hcls hnames h (fun x hx => nomatch hx) hfX hkX hcellA (by rw [hhp, hT]; exact Nat.le_refl _) (msg := .ref sa) rfl
    (g := { method := m, pc := pc + 6, locals := ls, stack := .ref sa :: .ref T.heap.size :: .ref T.heap.size :: rest, locked := none }) rfl hsize rfl rfl (rest := rest) rfl
    (by rw [hb]; exact d6) (by rw [hb]; exact d9) hout hRframes (by simp only [List.map_cons, List.sum_cons, hcat]; omega) hlocks
  obtain ⟨f1, f2⟩ := vx_frame hsame
  rw [hhp] at f1 f2
  have hWs : s.WarmedH U.vm := State.WarmedH.trans hW0 hW
  have hcl : s.vm.findClass cls = some ce.cls := by
    have h9 := hO.cls
    rw [hvm] at h9
    exact h9
  have hall : s.sameButNew ({ U with vm := s.vm } : State) locs mc ms := by
    subst hA
    obtain ⟨e1, e2⟩ := hsame
    rw [State.setFrames_setFrames] at e1
    have h2 : (T.setVm s.vm).sameButNew ({ U with vm := s.vm } : State) [] (0 + 1) (0 + 6) := ⟨e1, e2⟩
    have h3 := X.same.trans h2
    rw [List.append_nil] at h3
    exact h3.mono hc hs
  refine ⟨U, ?_, .threw T.heap.size, hrun, hend, Or.inr ⟨T.heap.size, rfl, cls, ce, locs, hx U hWs.alike f1 (fun q hq => f2 q hq (fun z hz => nomatch hz)), hce, hO.vm, hcl, hWs, hall, hf⟩⟩
  refine st1 _ ?_
  show Steps p.tables e below (T1.setTop { method := m, pc := pc + 3, locals := ls, stack := .ref T.heap.size :: rest, locked := none }) _
  jvm_step X₁.here [X₁.here.top, hexec, d3', Value.category]
  exact X₁.ldcString hexec (own := own) (text := text) (index := is) (a := sa) hown' hstr'.1 hstr'.2
    (g := { method := m, pc := pc + 4, locals := ls, stack := .ref T.heap.size :: .ref T.heap.size :: rest, locked := none }) rfl d4' _ hsteps
/-- 'throw new E("text")', the text by a wide index -/
theorem vx_throwSW {cc : ByteArray} {pc : Nat} (hexec : p.tables.exec = Jvm.exec) (hb : c.code = cc) (hl : l.stackTraces = false) {own cls text : String} {names : List String} {ik is ic mc ms sa : Nat} {A : Nat → Prop}
    (hown : s.vm.findClass own = some m.cls) (hcls : Bundle.fit cls = true) (hnames : ∀ n ∈ names, Bundle.fit n = true)
    (hk : (Cond.classLink own ik cls).before args s = true) (hini : (Cond.initialized cls).before args s = true) (hstr : vk_R own is text sa s) (hat : ∀ w ∈ vx_atS own ic cls names, w.before args s = true)
    (hgood : ∀ w ∈ Cond.classLink own ik cls :: Cond.initialized cls :: vx_atS own ic cls names, vx_ot w = true)
    (hU : vx_Zq Bundle.tN "UNASSIGNED_STACK" Bundle.steD A s s.heap) (hN : vx_Zq Bundle.tN "SUPPRESSED_SENTINEL" Bundle.listD A s s.heap) (hS : va_S A s.heap H locs) (hsize : ls.size = c.maxLocals)
    (d0 : decode cc pc = .ok (.new ik, 3)) (d3 : decode cc (pc + 3) = .ok (.dup, 1)) (d4 : decode cc (pc + 4) = .ok (.ldc_w is, 3)) (d7 : decode cc (pc + 7) = .ok (.invokespecial ic, 3)) (d10 : decode cc (pc + 10) = .ok (.athrow, 1))
    (hout : ∀ x ∈ c.exceptionTable.toList, covers x (pc + 10) = false)
    (hRframes : names.length + 3 < R.frames) (hRlocals : (rest.map fun v => v.category).sum + (13 * (names.length + 1) + 43) ≤ R.locals) (hRcells : cells + 1 ≤ R.cells) (hRslots : slots + 6 ≤ R.slots) (hlocks : meth.locks = false)
    (hx : ∀ t : State, s.vm.Alike t.vm → H.size ≤ t.heap.size → (∀ q : Nat, q < H.size → t.heap[q]? = H[q]?) → XC cls s t)
    (hf : ∀ z ∈ locs, free z.base) (hc : cells + 1 ≤ mc) (hs : slots + 6 ≤ ms) :
    W p l e R s m args below meth c H locs cells slots (vx_MQ below Qc XC args s mc ms free) (F0 m pc ls rest) := by
  intro T hT X
  have htr : e.platform.stackTraces = false := (show e.platform.stackTraces = l.stackTraces by rw [X.admits.platform]).trans hl
  have Y := vx_rebase X (R' := { frames := R.frames, locals := R.locals, cells := 1, slots := 6 }) (Nat.le_refl _) (Nat.le_refl _) hRcells hRslots
  obtain ⟨s', hA⟩ : ∃ z, z = (T.setVm s.vm).setFrames (.invoking m args :: below) := ⟨_, rfl⟩
  rw [← hA] at Y
  have hvm : s'.vm = s.vm := by rw [hA]; rfl
  have hhp : s'.heap = H := by rw [hA]; exact hT
  have hW0 : s.WarmedH s'.vm := by rw [hvm]; exact State.WarmedH.refl s
  have hat' : ∀ w ∈ vx_atS own ic cls names, w.before args s' = true := fun w hw => vx_ot_at hW0 hvm.symm (hgood w (List.mem_cons_of_mem _ (List.mem_cons_of_mem _ hw))) (hat w hw)
  have hk' : (Cond.classLink own ik cls).before args s' = true := vx_ot_at hW0 hvm.symm (hgood _ List.mem_cons_self) hk
  have hini' : (Cond.initialized cls).before args s' = true := vx_ot_at hW0 hvm.symm (hgood _ (List.mem_cons_of_mem _ List.mem_cons_self)) hini
  have hU' : vx_Zq Bundle.tN "UNASSIGNED_STACK" Bundle.steD A s' s'.heap := by rw [hhp]; exact vx_Zq.moved hW0.alike (hU.kept hS.2.1)
  have hN' : vx_Zq Bundle.tN "SUPPRESSED_SENTINEL" Bundle.listD A s' s'.heap := by rw [hhp]; exact vx_Zq.moved hW0.alike (hN.kept hS.2.1)
  have h : ∀ w ∈ Bundle.ownAtoms own ic cls names, w.before args s' = true := vx_own hat' (vx_isRefq hU'.1) (vx_isRefq hN'.1) hU'.2.word hN'.2.word
  have hown' : s'.vm.findClass own = some m.cls := by rw [hvm]; exact hown
  have hins : (Cond.instantiable cls 6).before args s' = true := h _ (by simp [Bundle.ownAtoms])
  obtain ⟨vm₁, cX, kX, hfX, hkX, -, -, X₁, st1⟩ := Y.newCold hexec (own := own) (C := cls) (index := ik) (n := 6) hown' hk' hins hini'
    (g := F0 m pc ls rest) rfl (by rw [hb]; exact d0) (Nat.le_refl _) (Nat.le_refl _)
  generalize hT1 : (T.setVm vm₁).pushCell { cls := cX, slots := kX.instanceTypes.map defaultValue, vm := .none } = T1 at X₁ st1
  have hcat : (Value.ref T.heap.size).category = 1 := rfl
  have hcellA : T1.heap[T.heap.size]? = some (freshCell cX kX) := by rw [← hT1]; exact State.heap_pushCell_size _ _
  have d3' : decode c.code (pc + 3) = .ok (.dup, 1) := by rw [hb]; exact d3
  have d4' : decode c.code (pc + 4) = .ok (.ldc_w is, 3) := by rw [hb]; exact d4
  have hstr' : vk_R own is text sa s' := vk_R.warm hW0 hstr
  obtain ⟨U, hsteps, hrun, hend, hW, hsame, ce, hce, hO⟩ := X₁.ctorThrowS hexec htr (own := own) (cls := cls) (names := names) (ic := ic) hown' hcls hnames h (fun x hx => nomatch hx) hfX hkX hcellA (by rw [hhp, hT]; exact Nat.le_refl _) (msg := .ref sa) rfl
    (g := { method := m, pc := pc + 7, locals := ls, stack := .ref sa :: .ref T.heap.size :: .ref T.heap.size :: rest, locked := none }) rfl hsize rfl rfl (rest := rest) rfl
    (by rw [hb]; exact d7) (by rw [hb]; exact d10) hout hRframes (by simp only [List.map_cons, List.sum_cons, hcat]; omega) hlocks
  obtain ⟨f1, f2⟩ := vx_frame hsame
  rw [hhp] at f1 f2
  have hWs : s.WarmedH U.vm := State.WarmedH.trans hW0 hW
  have hcl : s.vm.findClass cls = some ce.cls := by
    have h9 := hO.cls
    rw [hvm] at h9
    exact h9
  have hall : s.sameButNew ({ U with vm := s.vm } : State) locs mc ms := by
    subst hA
    obtain ⟨e1, e2⟩ := hsame
    rw [State.setFrames_setFrames] at e1
    have h2 : (T.setVm s.vm).sameButNew ({ U with vm := s.vm } : State) [] (0 + 1) (0 + 6) := ⟨e1, e2⟩
    have h3 := X.same.trans h2
    rw [List.append_nil] at h3
    exact h3.mono hc hs
  refine ⟨U, ?_, .threw T.heap.size, hrun, hend, Or.inr ⟨T.heap.size, rfl, cls, ce, locs, hx U hWs.alike f1 (fun q hq => f2 q hq (fun z hz => nomatch hz)), hce, hO.vm, hcl, hWs, hall, hf⟩⟩
  refine st1 _ ?_
  show Steps p.tables e below (T1.setTop { method := m, pc := pc + 3, locals := ls, stack := .ref T.heap.size :: rest, locked := none }) _
  jvm_step X₁.here [X₁.here.top, hexec, d3', Value.category]
  exact X₁.ldcStringW hexec (own := own) (text := text) (index := is) (a := sa) hown' hstr'.1 hstr'.2
    (g := { method := m, pc := pc + 4, locals := ls, stack := .ref T.heap.size :: .ref T.heap.size :: rest, locked := none }) rfl d4' _ hsteps
end Ends
section Bodies
variable {l : Launch}
theorem vx_ofW {y : MethodName} {ws ws' : List Cond} {rm : Room} {Pc : Array Value → State → Prop} {Qc : Array Value → State → Outcome → State → Prop} {XC : String → State → State → Prop} {mc ms : Nat} {free : Addr → Prop} {cc : ByteArray} {maxL : Nat} {ret : Option FieldType}
    (hy : plainName y.cls = true) (hw : ws = Cond.code y cc maxL ret :: ws')
    (body : ∀ p e s m args below meth c s₁, BodyLoose p l y (headSpec ws rm) cc maxL ret e s m args below meth c s₁ → c.maxLocals = maxL → (∀ x ∈ c.exceptionTable.toList, False) → Pc args s →
      W p l e (headSpec ws rm).room s m args below meth c s.heap [] 0 0 (vx_MQ below Qc XC args s mc ms free) (entryFrame m args maxL)) : vx_Met l y ws rm Pc Qc XC mc ms free := by
  refine MetFree.of_bodyS (code := cc) (maxLocals := maxL) (ret := ret) hy ?_ ?_
  · intro args s m h hn
    obtain ⟨meth, c, h1, h2, h3, h4, h5, h6, -, -⟩ := Cond.code_spec hn (atoms_spec (ws := ws) h _ (by rw [hw]; exact List.mem_cons_self))
    exact ⟨meth, c, h1, h2, h3, h4, h5, h6⟩
  · intro p e s m args below meth c s₁ B hml hP _
    have hh0 : s₁.heap = s.heap := by rw [B.state]; rfl
    have ht : ∀ x ∈ c.exceptionTable.toList, False := by
      obtain ⟨meth9, c9, h1, h2, -, -, -, -, h7, -⟩ := Cond.code_spec B.named (atoms_spec (ws := ws) B.pre _ (by rw [hw]; exact List.mem_cons_self))
      cases Option.some.inj (h1.symm.trans B.method)
      cases Option.some.inj (h2.symm.trans (Stand.of_body B).code)
      intro x hx
      rw [Array.isEmpty_iff.mp h7] at hx
      cases hx
    obtain ⟨t, a1, o, b1, b2, b3⟩ := body p e s m args below meth c s₁ B hml ht hP s₁ hh0 (Stand.of_body B)
    exact ⟨t, o, a1, b1, b2, b3⟩
/-- the table of a body with handlers -/
theorem vx_table {p : Program} {x y : MethodName} {S : Spec} {cc bytes : ByteArray} {maxL maxL' : Nat} {ret ret' : Option FieldType} {e : Env} {s s₁ : State} {m : MethodId} {args : Array Value} {below : List Frame} {meth : Method} {c : Code} {hh : List (Nat × Nat × Nat × Nat)}
    (B : BodyLoose p l y S cc maxL ret e s m args below meth c s₁) (h : (Cond.codeWith y bytes maxL' ret' hh).before args s = true) : c.exceptionTable.toList = tableOf hh := by
  obtain ⟨m9, meth9, c9, hn9, h1, h2, -, -, h6, -⟩ := Cond.codeWith_spec h
  cases Option.some.inj (hn9.symm.trans B.named)
  cases Option.some.inj (h1.symm.trans B.method)
  cases Option.some.inj (h2.symm.trans (Stand.of_body B).code)
  rw [← h6, table_eq]
end Bodies
end VXA
/-! ===== END ===== -/
/-! ===== BEGIN a static call of a method with an exception table ===== -/
section VXS
variable {p : Program} {l : Launch} {e : Env} {R : Room} {s : State} {m : MethodId} {args : Array Value} {below : List Frame} {meth : Method} {c : Code} {T : State} {H : Heap} {locs : List Loc} {cells slots : Nat}
abbrev vx_CSW (R : Room) (s : State) (args : Array Value) (own : String) (index : Nat) (y : MethodName) (bytes : ByteArray) (maxL : Nat) (ret : Option FieldType) (hh : List (Nat × Nat × Nat × Nat)) (ws : List Cond) (rm : Room) (mc ms n : Nat) : Prop :=
  (rm.cells = mc ∧ rm.slots = ms ∧ rm.frames + 1 ≤ R.frames ∧ 8 + (maxL + 11) + rm.locals ≤ R.locals ∧ (∀ w ∈ ws, ∀ (a' : Array Value) (U : State), s.WarmedH U.vm → w.before a' U = true) ∧ Cond.codeWith y bytes maxL ret hh ∈ ws) ∧
  (Cond.codeWith y bytes maxL ret hh).before args s = true ∧ (Cond.initialized y.cls).before args s = true ∧ (y.cls ≠ "java/lang/invoke/MethodHandle" ∧ y.cls ≠ "java/lang/invoke/VarHandle") ∧
  (∀ sig, parseMethodDescriptor y.desc = some sig → n = sig.parameters.length) ∧ (Cond.methodLink own index y).before args s = true ∧ (Cond.static y).before args s = true
theorem vx_cwSW {own : String} {index maxL mc ms : Nat} {y : MethodName} {bytes : ByteArray} {ret : Option FieldType} {hh : List (Nat × Nat × Nat × Nat)} {Ts ws ws' : List Cond} {rm : Room} (n : Nat) (ht : ∀ w ∈ Ts, w.before args s = true) (hT : GoodIn Ts (va_wsS own index y ws)) (hw : ws = Cond.codeWith y bytes maxL ret hh :: ws') (hrc : rm.cells = mc) (hrs : rm.slots = ms)
    (hd : y.cls ≠ "java/lang/invoke/MethodHandle" ∧ y.cls ≠ "java/lang/invoke/VarHandle" ∧ (parseMethodDescriptor y.desc).map (fun d => d.parameters.length) = some n) (hR : rm.frames + 1 ≤ R.frames ∧ 8 + (maxL + 11) + rm.locals ≤ R.locals) :
    vx_CSW R s args own index y bytes maxL ret hh ws rm mc ms n := by
  have ok : ∀ w ∈ va_wsS own index y ws, w.before args s = true := fun w h => ht w (hT w h).1
  have hG : GoodIn Ts ws := fun w h => hT w (by unfold va_wsS; exact List.mem_append_right _ h)
  have hc : Cond.codeWith y bytes maxL ret hh ∈ ws := by rw [hw]; exact List.mem_cons_self
  refine ⟨⟨hrc, hrs, hR.1, hR.2, pay_in ht hG, hc⟩, ht _ (hG _ hc).1, ok _ (by simp [va_wsS]), ⟨hd.1, hd.2.1⟩, fun sig h => ?_, ok _ (by simp [va_wsS]), ok _ (by simp [va_wsS])⟩
  have h2 := hd.2.2
  rw [h] at h2
  exact (Option.some.inj h2).symm
theorem vx_callSW (X : Stand p l e R s m args below meth c T locs cells slots) (hexec : p.tables.exec = Jvm.exec) {own : String} {index : Nat} {y : MethodName} {bytes : ByteArray} {maxL : Nat} {ret : Option FieldType} {hh : List (Nat × Nat × Nat × Nat)}
    (hown : s.vm.findClass own = some m.cls) (hlink : (Cond.methodLink own index y).before args s = true) (hstat : (Cond.static y).before args s = true) (hinit : (Cond.initialized y.cls).before args s = true)
    (hcode : (Cond.codeWith y bytes maxL ret hh).before args s = true) (hy : y.cls ≠ "java/lang/invoke/MethodHandle" ∧ y.cls ≠ "java/lang/invoke/VarHandle")
    {W9 : Nat} {Pre : Pt → Array Value → Prop} {Post : Pt → Array Value → Option Value → Pt → Prop} (hK : Back l R p e below s args y 3 W9 Pre Post)
    {g : JFrame} (hg : g.method = m) (hsize : g.locals.size = c.maxLocals) {argsL rest : List Value} (hlen : ∀ sig, parseMethodDescriptor y.desc = some sig → argsL.length = sig.parameters.length)
    (hstack : g.stack = argsL.reverse ++ rest) (hW : 2 * g.monitorRoom + (rest.map fun v => v.category).sum ≤ W9) (hdg : decode c.code g.pc = .ok (.invokestatic index, 3))
    (hpre : ∀ vm₁, s.WarmedH vm₁ → Pre ⟨T.setVm vm₁, locs, cells, slots⟩ argsL.toArray) :
    ∃ (v : Option Value) (vm₁ : Vm) (B : Pt), s.WarmedH vm₁ ∧ Stand p l e R s m args below meth c B.U B.locs B.cells B.slots ∧ Post ⟨T.setVm vm₁, locs, cells, slots⟩ argsL.toArray v B ∧
      ∀ target, Steps p.tables e below (B.U.setTop { g with pc := g.pc + 3, stack := v.toList ++ rest }) target → Steps p.tables e below (T.setTop g) target := by
  obtain ⟨mk, methM, cM, hnamed, hmethM, -, -, -, -, -, -, hsigM⟩ := Cond.codeWith_spec hcode
  have hstatic : methM.isStatic = true := Cond.static_spec hnamed hmethM hstat
  obtain ⟨kP, hkP, -⟩ := className_of_methodNamed hnamed
  have hinitP : kP.init = .initialized := Cond.initialized_spec (findClass_of_methodNamed hnamed) hkP hinit
  obtain ⟨vm₁, X₁, hstep₁⟩ := X.invokestatic hexec hown hlink hnamed hmethM hstatic hkP hinitP hy (g := g) hg (argsL := argsL) (rest := rest) (hlen _ hsigM) hstack hdg
  obtain ⟨v, B, X', hpost, hsteps⟩ := hK m meth c ⟨T.setVm vm₁, locs, cells, slots⟩ { g with stack := rest } (.invokestatic index) mk argsL.toArray X₁ hg hsize hdg hW (X₁.named hnamed) (hpre vm₁ X₁.warmed)
  exact ⟨v, vm₁, B, X₁.warmed, X', hpost, fun target h => hstep₁ _ fun acts => by rw [doInvoke_state]; exact hsteps.trans h⟩
theorem vx_runSW {y : MethodName} {bytes cc : ByteArray} {maxL nL mc ms n index : Nat} {ret : Option FieldType} {hh : List (Nat × Nat × Nat × Nat)} {ws : List Cond} {rm : Room} {Pc : Array Value → State → Prop} {Qc : Array Value → State → Outcome → State → Prop} {free : Addr → Prop} {Ts : List Cond} {own : String} {As rest : List Value} {g : JFrame}
    (S : CallFix p m c cc nL s args Ts own) (hM : Met l y ws rm Pc Qc mc ms free) (cw : vx_CSW R s args own index y bytes maxL ret hh ws rm mc ms n) (hp : PreS s H Pc As)
    (hg : g.method = m) (hn : As.length = n) (hsize : g.locals.size = nL) (hstack : g.stack = As.reverse ++ rest) (hW : 2 * g.monitorRoom + (rest.map fun v => v.category).sum ≤ 8) (hdg : decode cc g.pc = .ok (.invokestatic index, 3)) (hf : cells + mc ≤ R.cells ∧ slots + ms ≤ R.slots) :
    va_Run p l e R s m args below meth c H locs cells slots mc ms g rest (Qc As.toArray) (free) := by
  obtain ⟨⟨hrc, hrs, hfr, hlo, hws, hcw⟩, hcode, hini, hy, hlen, hl, hstt⟩ := cw
  have hK : Back l R p e below s args y 3 8 (PreOf R mc ms Pc) (PostOf Qc mc ms free) := va_backW (hh := hh) (bytes := bytes) (maxL := maxL) (ret := ret) hM hp.1 hrc hrs hfr hlo hws hcw (fun a' U hW => word_at hW (Or.inl (by first | rfl | simp [Cond.onTables, Cond.keeps, Cond.steady])) hini)
  obtain ⟨hx, hb, hml, ho, -⟩ := S
  intro T hT X
  obtain ⟨v, vm₁, ⟨U', l2, c2, s2⟩, hW₁, X', ⟨g', mk, t, L, e1, e2, hq, h1, hL, h2, h3⟩, st⟩ := vx_callSW X hx (hh := hh) (bytes := bytes) (maxL := maxL) (ret := ret) ho hl hstt hini hcode hy hK hg (hsize.trans hml.symm) (argsL := As) (rest := rest) (fun sig h => hn.trans (hlen sig h)) hstack hW (by rw [hb]; exact hdg)
    (fun vm₁ hW₁ => ⟨hf.1, hf.2, hp.2 (T.setVm vm₁) hT hW₁⟩)
  dsimp only [Pt.U, Pt.locs, Pt.cells, Pt.slots] at X' e1 e2 h1 h2 h3 st
  subst h1; subst h2; subst h3
  exact ⟨v, (T.setVm vm₁).calling g' mk As.toArray, t, U', L, hT, X', hL, e1, e2, hq, st⟩
/-- not caught here, past rows that name other classes: it goes on to the caller -/
theorem vx_outP {p : Program} {l : Launch} {e : Env} {R : Room} {s : State} {m : MethodId} {args : Array Value} {below : List Frame} {meth : Method} {c : Code} {H : Heap} {locs : List Loc} {cells slots : Nat} {free : Addr → Prop} {ls : Array Slot} {rest : List Value} {Qc : Array Value → State → Outcome → State → Prop} {XC : String → State → State → Prop}
    {pc : Nat} {own E : String} {ce : Cell} {q : Addr} {mc ms : Nat} (hown : s.vm.findClass own = some m.cls) (hlocks : meth.locks = false)
    (hpass : ∀ z ∈ c.exceptionTable.toList, covers z pc = false ∨ (z.catchType ≠ 0 ∧ ∃ nm : String, (Cond.classLink own z.catchType nm).before args s = true ∧ va_Nc E nm s)) (hcell : H[q]? = some ce) (hv : ce.vm = .none) (hcl : s.vm.findClass E = some ce.cls)
    (hx : ∀ t : State, t.heap = H → s.vm.Alike t.vm → XC E s t) (hf : ∀ z ∈ locs, free z.base) (hc : cells ≤ mc) (hs : slots ≤ ms) :
    vx_W p l e R s m args below meth c H locs cells slots (vx_MQ below Qc XC args s mc ms free) (F0 m pc ls rest) q := by
  intro T hT X
  have hpl : e.platform.magicAccessors = ({} : Platform).magicAccessors := by rw [X.admits.platform]
  obtain ⟨vm', hW', X', st⟩ := X.outThrough hlocks q (g := F0 m pc ls rest) rfl rfl rfl (cell := ce) (by rw [hT]; exact hcell) (by rw [hv]; rfl)
    (by obtain ⟨k9, h9, -⟩ := Vm.findClass_spec hcl; exact ⟨k9, h9⟩) (fun z hz => by
      rcases hpass z hz with h | ⟨hz0, nm, hl1, hn1⟩
      · exact Or.inl h
      · obtain ⟨c6, hc6, hcl6⟩ := Cond.classLink_spec hown hl1 e.platform hpl
        obtain ⟨a8, b8, h1, h2, h3⟩ := hn1
        cases Option.some.inj (h1.symm.trans hcl)
        cases Option.some.inj (h2.symm.trans hc6)
        exact Or.inr ⟨hz0, _, hcl6, h3⟩)
  obtain ⟨g₀, hfr⟩ := X'.frames_eq
  have hcell9 : ((T.setVm vm').setFrames (.throwing q :: below)).heap[q]? = some ce := by
    show T.heap[q]? = some ce
    rw [hT]; exact hcell
  have hend : Ended ((T.setVm vm').setFrames (.throwing q :: below)) below (.threw q) := State.frames_setFrames _ (State.cur_lt_of_frames hfr)
  refine ⟨(T.setVm vm').setFrames (.throwing q :: below), ?_, .threw q, X'.here.running, hend, Or.inr ⟨q, rfl, E, ce, locs, hx _ hT (X'.ends _).1.alike, hcell9, hv, hcl, (X'.ends _).1, (X'.ends _).2.mono hc hs, hf⟩⟩
  rw [X.pushThrowing_eq]
  exact st
/-- a thing of a world lies in the heap -/
theorem vx_lt {D : va_G} {cl : List vw_C} {ws : va_W} {H1 : Heap} (h : va_P D cl ws H1) {k : Nat} {q : Nat × va_E} (hk : ws[k]? = some q) : q.1 < H1.size := (h k q hk).lt
end VXS
/-! ===== END ===== -/
/-! ===== BEGIN methods with a table of their own: called by a name, returning or throwing ===== -/
section VXH
/-! vx_backW, vx_callVX, vx_callSX, vx_callVW, vx_runVW, vx_runVX, vx_runSX, vx_ofWH follow the same proofs as their sisters above (Free/Laws.lean, Shelf42/LK1.lean); vx_outP calls Shelf42/NT130.lean (outThrough). -/
section
variable {l : Launch} {R : Room} {p : Program} {e : Env} {below : List Frame} {s : State} {sargs : Array Value} {y : MethodName} {len W9 : Nat}
theorem vx_backW {ws : List Cond} {rm : Room} {Pc : Array Value → State → Prop} {Qc : Array Value → State → Outcome → State → Prop} {XC : String → State → State → Prop} {mc ms : Nat} {free : Addr → Prop} {bytes : ByteArray} {maxL : Nat} {ret : Option FieldType} {hh : List (Nat × Nat × Nat × Nat)}
    (hM : vx_Met l y ws rm Pc Qc XC mc ms free) (hblind : FrameBlind Pc) (hrc : rm.cells = mc) (hrs : rm.slots = ms)
    (hframes : rm.frames + 1 ≤ R.frames) (hlocals : W9 + (maxL + 11) + rm.locals ≤ R.locals)
    (hws : ∀ w ∈ ws, ∀ a' U, s.WarmedH U.vm → w.before a' U = true) (hcode : Cond.codeWith y bytes maxL ret hh ∈ ws) (hinit : ∀ a' U, s.WarmedH U.vm → (Cond.initialized y.cls).before a' U = true) :
    vx_Back l R p e below s sargs y len W9 (PreOf R mc ms Pc) (PostOf Qc mc ms free) (vx_Post XC mc ms free) := by
  intro m meth c A g ig mk a X hg hsize hdg hW hn hp
  have h1 : (headSpec ws rm).pre.before a A.U = true := atoms_intro fun w hw => hws w hw _ _ X.warmed
  have h2 : (Cond.codeWith y bytes maxL ret hh).before a A.U = true := hws _ hcode _ _ X.warmed
  have h3 : (Cond.initialized y.cls).before a A.U = true := hinit _ _ X.warmed
  have h4 : A.cells + (headSpec ws rm).room.cells ≤ R.cells := by rw [show (headSpec ws rm).room.cells = mc from hrc]; exact hp.1
  have h5 : A.slots + (headSpec ws rm).room.slots ≤ R.slots := by rw [show (headSpec ws rm).room.slots = ms from hrs]; exact hp.2.1
  have hPc : Pc a (A.U.calling g mk a) := hblind _ _ _ _ hp.2.2
  obtain ⟨U, Ls, c0, s0⟩ := A
  dsimp only [Pt.U, Pt.locs, Pt.cells, Pt.slots] at h1 h2 h3 h4 h5 X hn hPc ⊢
  obtain ⟨m9, methY, cY, hn9, hmY, hcY, -, hlY, -⟩ := Cond.codeWith_spec h2
  cases Option.some.inj (hn9.symm.trans hn)
  obtain ⟨kY, hkY, -⟩ := className_of_methodNamed hn
  have hinitY : kY.init = .initialized := Cond.initialized_spec (findClass_of_methodNamed hn) hkY h3
  have h : At U g.method c below := by rw [hg]; exact X.here
  have hlocals9 : W9 + (maxL + 11) + (headSpec ws rm).room.locals ≤ R.locals := hlocals
  have happ : (headSpec ws rm).appliesLoose y e.platform (U.calling g mk a) = true :=
    Spec.appliesLoose_calling (g := g) h hdg hn hkY hinitY
      (X.room_calling (g := g) (R' := (headSpec ws rm).room) hsize hmY hcY hframes (by rw [hlY]; omega) h4 h5) h1
  obtain ⟨mid, hmid⟩ := h.above
  have hfr : (U.setTop g).frames = (.java g :: mid) ++ below := by rw [State.frames_setTop' g h.top, hmid]; rfl
  obtain ⟨o, s₂, hsteps, -, hend, hq⟩ := Steps.callFree hM p X.admits X.cas X.clock (acts := []) hfr happ hPc trivial
  have hq' : vx_Q Qc XC mc ms free a (U.calling g mk a) o s₂ := hq
  rw [State.frames_setTop' g h.top] at hend
  obtain ⟨g₀, hg0⟩ := Option.isSome_iff_exists.mp h.top
  obtain ⟨r, hr⟩ := State.topJava?_eq_some.mp hg0
  have hr' : (({ U with heap := s₂.heap, slotsUsed := s₂.slotsUsed } : State).setVm s₂.vm).frames = .java g₀ :: r := hr
  rcases hq' with ⟨hqc, L, hfe, hL⟩ | ⟨q, rfl, E, ce, L, hx, hce, hcv, hcl, hW₂, hsm, hL⟩
  · obtain ⟨⟨v, rfl⟩, hW₂, e2, q2, q3, q4, q5, q6⟩ := id hfe
    have e3 : s₂ = ({ (U.calling g mk a).setFrames s₂.frames with heap := s₂.heap, slotsUsed := s₂.slotsUsed } : State).setVm s₂.vm := by
      have : s₂ = ({ s₂ with vm := (U.calling g mk a).vm } : State).setVm s₂.vm := rfl
      rw [e2] at this
      exact this
    obtain ⟨c₂, i₂, len₂, hc₂, hd₂, hf₂⟩ := hend
    have hW' : U.WarmedH s₂.vm := hW₂
    have hcc : c₂ = c := by
      have h1 : s₂.code? g.method = U.code? g.method := by
        rw [State.code?_eq, State.code?_eq, hW'.alike.method?]
      exact Option.some.inj (hc₂.symm.trans (h1.trans h.code))
    subst hcc
    have hlen : len₂ = len := by rw [hdg] at hd₂; cases hd₂; rfl
    subst hlen
    have hs₂ : s₂ = (({ U with heap := s₂.heap, slotsUsed := s₂.slotsUsed } : State).setVm s₂.vm).setTop { g with pc := g.pc + len₂, stack := v.toList ++ g.stack } := by
      refine e3.trans ?_
      rw [hf₂, State.calling_eq h.top, State.setFrames_setFrames, State.setTop_of_frames _ hr', hr]
      rfl
    have hsame : U.sameButNew ({ U with heap := s₂.heap, slotsUsed := s₂.slotsUsed } : State) L mc ms := by
      refine ⟨?_, q2, q3, q4, q5, q6⟩
      obtain ⟨t, ht, -⟩ := State.frames_cons hr
      show ({ U with heap := s₂.heap, slotsUsed := s₂.slotsUsed } : State) = { U.setFrames U.frames with heap := s₂.heap, slotsUsed := s₂.slotsUsed }
      rw [State.setFrames_self ht]
    subst hg
    refine Or.inl ⟨v, ⟨(({ U with heap := s₂.heap, slotsUsed := s₂.slotsUsed } : State).setVm s₂.vm), Ls ++ L, c0 + mc, s0 + ms⟩,
      ⟨X.admits, X.cas, X.clock, X.frames, X.room, X.hears, X.method, X.code, (X.here.setHeapUsed s₂.heap s₂.slotsUsed).setVm hW'.alike, X.tail, State.WarmedH.trans X.warmed hW', X.limits, X.bytes, X.same.trans (hsame.setVm s.vm)⟩,
      ⟨g, mk, s₂, L, rfl, rfl, hqc, rfl, hL, rfl, rfl⟩, ?_⟩
    show Steps p.tables e below _ ((({ U with heap := s₂.heap, slotsUsed := s₂.slotsUsed } : State).setVm s₂.vm).setTop { g with pc := g.pc + len₂, stack := v.toList ++ g.stack })
    rw [← hs₂]
    exact hsteps
  · obtain ⟨e2, q2, q3, q4, q5, q6⟩ := id hsm
    have e3 : s₂ = ({ (U.calling g mk a).setFrames s₂.frames with heap := s₂.heap, slotsUsed := s₂.slotsUsed } : State).setVm s₂.vm := by
      have : s₂ = ({ s₂ with vm := (U.calling g mk a).vm } : State).setVm s₂.vm := rfl
      rw [e2] at this
      exact this
    have hf₂ : s₂.frames = .throwing q :: .java g :: U.frames.tail := hend
    have hW' : U.WarmedH s₂.vm := hW₂
    have hs₂ : s₂ = ((({ U with heap := s₂.heap, slotsUsed := s₂.slotsUsed } : State).setVm s₂.vm).setTop g).pushFrame (.throwing q) := by
      refine e3.trans ?_
      rw [hf₂, State.calling_eq h.top, State.setFrames_setFrames, State.pushFrame, State.frames_setTop _ hr', State.setTop_of_frames _ hr', State.setFrames_setFrames, hr]
      rfl
    have hsame : U.sameButNew ({ U with heap := s₂.heap, slotsUsed := s₂.slotsUsed } : State) L mc ms := by
      refine ⟨?_, q2, q3, q4, q5, q6⟩
      obtain ⟨t, ht, -⟩ := State.frames_cons hr
      show ({ U with heap := s₂.heap, slotsUsed := s₂.slotsUsed } : State) = { U.setFrames U.frames with heap := s₂.heap, slotsUsed := s₂.slotsUsed }
      rw [State.setFrames_self ht]
    subst hg
    refine Or.inr ⟨q, ⟨(({ U with heap := s₂.heap, slotsUsed := s₂.slotsUsed } : State).setVm s₂.vm), Ls ++ L, c0 + mc, s0 + ms⟩,
      ⟨X.admits, X.cas, X.clock, X.frames, X.room, X.hears, X.method, X.code, (X.here.setHeapUsed s₂.heap s₂.slotsUsed).setVm hW'.alike, X.tail, State.WarmedH.trans X.warmed hW', X.limits, X.bytes, X.same.trans (hsame.setVm s.vm)⟩,
      ⟨g, mk, s₂, L, E, ce, rfl, rfl, hx, hce, hcv, hcl, rfl, hL, rfl, rfl⟩, ?_⟩
    show Steps p.tables e below _ (((({ U with heap := s₂.heap, slotsUsed := s₂.slotsUsed } : State).setVm s₂.vm).setTop g).pushFrame (.throwing q))
    rw [← hs₂]
    exact hsteps
end
variable {p : Program} {l : Launch} {e : Env} {R : Room} {s : State} {m : MethodId} {args : Array Value} {below : List Frame} {meth : Method} {c : Code} {T : State} {H : Heap} {locs : List Loc} {cells slots : Nat}
theorem vx_callVX (X : Stand p l e R s m args below meth c T locs cells slots) (hexec : p.tables.exec = Jvm.exec) {own C : String} {index : Nat} {y : MethodName} {bytes : ByteArray} {maxL : Nat} {ret : Option FieldType} {hh : List (Nat × Nat × Nat × Nat)}
    (hown : s.vm.findClass own = some m.cls) (hlink : (Cond.methodLink own index y).before args s = true) (hinst : (Cond.instanceMethod y).before args s = true) (hsel : (Cond.selects C y y).before args s = true)
    (hcode : (Cond.codeWith y bytes maxL ret hh).before args s = true) (hy : y.cls ≠ "java/lang/invoke/MethodHandle" ∧ y.cls ≠ "java/lang/invoke/VarHandle")
    {W9 : Nat} {Pre : Pt → Array Value → Prop} {Post : Pt → Array Value → Option Value → Pt → Prop} {PostX : Pt → Array Value → Addr → Pt → Prop} (hK : vx_Back l R p e below s args y 3 W9 Pre Post PostX)
    {b : Addr} {cellB : Cell} (hcell : T.heap[b]? = some cellB) (hobj : cellB.vm.isStatics = false) (hcls : s.vm.findClass C = some cellB.cls)
    {g : JFrame} (hg : g.method = m) (hsize : g.locals.size = c.maxLocals) {argsL rest : List Value} (hlen : ∀ sig, parseMethodDescriptor y.desc = some sig → argsL.length = sig.parameters.length)
    (hstack : g.stack = argsL.reverse ++ .ref b :: rest) (hW : 2 * g.monitorRoom + (rest.map fun v => v.category).sum ≤ W9) (hdg : decode c.code g.pc = .ok (.invokevirtual index, 3))
    (hpre : ∀ vm₁, s.WarmedH vm₁ → Pre ⟨T.setVm vm₁, locs, cells, slots⟩ (Value.ref b :: argsL).toArray) :
    (∃ (v : Option Value) (vm₁ : Vm) (B : Pt), s.WarmedH vm₁ ∧ Stand p l e R s m args below meth c B.U B.locs B.cells B.slots ∧ Post ⟨T.setVm vm₁, locs, cells, slots⟩ (Value.ref b :: argsL).toArray v B ∧
      ∀ target, Steps p.tables e below (B.U.setTop { g with pc := g.pc + 3, stack := v.toList ++ rest }) target → Steps p.tables e below (T.setTop g) target) ∨
    (∃ (q : Addr) (vm₁ : Vm) (B : Pt), s.WarmedH vm₁ ∧ Stand p l e R s m args below meth c B.U B.locs B.cells B.slots ∧ PostX ⟨T.setVm vm₁, locs, cells, slots⟩ (Value.ref b :: argsL).toArray q B ∧
      Steps p.tables e below (T.setTop g) ((B.U.setTop { g with stack := rest }).pushFrame (.throwing q))) := by
  obtain ⟨mk, methM, hnamed, hmethM, hstM, habM⟩ := Cond.instanceMethod_spec hinst
  obtain ⟨m8, methM', cM, hn8, hmethM', -, -, -, -, -, -, hsigM⟩ := Cond.codeWith_spec hcode
  cases Option.some.inj (hn8.symm.trans hnamed)
  cases hmethM.symm.trans hmethM'
  obtain ⟨c2, r2, m2, q1, q2, q3, q4, kP, hkP, hkPi⟩ := Cond.selects_spec hsel
  cases hcls.symm.trans q1
  cases (State.methodFound?_of_named hnamed hy).symm.trans q2
  cases hnamed.symm.trans q3
  have hselP : selectMethod e.platform s.vm cellB.cls mk = .method mk := by rw [Launch.admits_selectMethod X.admits]; exact q4
  obtain ⟨vm₁, X₁, hstep₁⟩ := X.invokevirtual hexec hown hlink hnamed hmethM hstM hkP hkPi hy (a := b) (cell := cellB) hcell
    (fun z h => by rw [h] at hobj; cases hobj) hselP hmethM habM hkP hkPi (g := g) hg (argsL := argsL) (rest := rest) (hlen _ hsigM) hstack hdg
  rcases hK m meth c ⟨T.setVm vm₁, locs, cells, slots⟩ { g with stack := rest } (.invokevirtual index) mk (Value.ref b :: argsL).toArray X₁ hg hsize hdg hW (X₁.named hnamed) (hpre vm₁ X₁.warmed) with ⟨v, B, X', hpost, hsteps⟩ | ⟨q, B, X', hpost, hsteps⟩
  · exact Or.inl ⟨v, vm₁, B, X₁.warmed, X', hpost, fun target h => hstep₁ _ fun acts => by rw [doInvoke_state]; exact hsteps.trans h⟩
  · exact Or.inr ⟨q, vm₁, B, X₁.warmed, X', hpost, hstep₁ _ fun acts => by rw [doInvoke_state]; exact hsteps⟩
theorem vx_callSX (X : Stand p l e R s m args below meth c T locs cells slots) (hexec : p.tables.exec = Jvm.exec) {own : String} {index : Nat} {y : MethodName} {bytes : ByteArray} {maxL : Nat} {ret : Option FieldType} {hh : List (Nat × Nat × Nat × Nat)}
    (hown : s.vm.findClass own = some m.cls) (hlink : (Cond.methodLink own index y).before args s = true) (hstat : (Cond.static y).before args s = true) (hinit : (Cond.initialized y.cls).before args s = true)
    (hcode : (Cond.codeWith y bytes maxL ret hh).before args s = true) (hy : y.cls ≠ "java/lang/invoke/MethodHandle" ∧ y.cls ≠ "java/lang/invoke/VarHandle")
    {W9 : Nat} {Pre : Pt → Array Value → Prop} {Post : Pt → Array Value → Option Value → Pt → Prop} {PostX : Pt → Array Value → Addr → Pt → Prop} (hK : vx_Back l R p e below s args y 3 W9 Pre Post PostX)
    {g : JFrame} (hg : g.method = m) (hsize : g.locals.size = c.maxLocals) {argsL rest : List Value} (hlen : ∀ sig, parseMethodDescriptor y.desc = some sig → argsL.length = sig.parameters.length)
    (hstack : g.stack = argsL.reverse ++ rest) (hW : 2 * g.monitorRoom + (rest.map fun v => v.category).sum ≤ W9) (hdg : decode c.code g.pc = .ok (.invokestatic index, 3))
    (hpre : ∀ vm₁, s.WarmedH vm₁ → Pre ⟨T.setVm vm₁, locs, cells, slots⟩ argsL.toArray) :
    (∃ (v : Option Value) (vm₁ : Vm) (B : Pt), s.WarmedH vm₁ ∧ Stand p l e R s m args below meth c B.U B.locs B.cells B.slots ∧ Post ⟨T.setVm vm₁, locs, cells, slots⟩ argsL.toArray v B ∧
      ∀ target, Steps p.tables e below (B.U.setTop { g with pc := g.pc + 3, stack := v.toList ++ rest }) target → Steps p.tables e below (T.setTop g) target) ∨
    (∃ (q : Addr) (vm₁ : Vm) (B : Pt), s.WarmedH vm₁ ∧ Stand p l e R s m args below meth c B.U B.locs B.cells B.slots ∧ PostX ⟨T.setVm vm₁, locs, cells, slots⟩ argsL.toArray q B ∧
      Steps p.tables e below (T.setTop g) ((B.U.setTop { g with stack := rest }).pushFrame (.throwing q))) := by
  obtain ⟨mk, methM, cM, hnamed, hmethM, -, -, -, -, -, -, hsigM⟩ := Cond.codeWith_spec hcode
  have hstatic : methM.isStatic = true := Cond.static_spec hnamed hmethM hstat
  obtain ⟨kP, hkP, -⟩ := className_of_methodNamed hnamed
  have hinitP : kP.init = .initialized := Cond.initialized_spec (findClass_of_methodNamed hnamed) hkP hinit
  obtain ⟨vm₁, X₁, hstep₁⟩ := X.invokestatic hexec hown hlink hnamed hmethM hstatic hkP hinitP hy (g := g) hg (argsL := argsL) (rest := rest) (hlen _ hsigM) hstack hdg
  rcases hK m meth c ⟨T.setVm vm₁, locs, cells, slots⟩ { g with stack := rest } (.invokestatic index) mk argsL.toArray X₁ hg hsize hdg hW (X₁.named hnamed) (hpre vm₁ X₁.warmed) with ⟨v, B, X', hpost, hsteps⟩ | ⟨q, B, X', hpost, hsteps⟩
  · exact Or.inl ⟨v, vm₁, B, X₁.warmed, X', hpost, fun target h => hstep₁ _ fun acts => by rw [doInvoke_state]; exact hsteps.trans h⟩
  · exact Or.inr ⟨q, vm₁, B, X₁.warmed, X', hpost, hstep₁ _ fun acts => by rw [doInvoke_state]; exact hsteps⟩
theorem vx_callVW (X : Stand p l e R s m args below meth c T locs cells slots) (hexec : p.tables.exec = Jvm.exec) {own C : String} {index : Nat} {y : MethodName} {bytes : ByteArray} {maxL : Nat} {ret : Option FieldType} {hh : List (Nat × Nat × Nat × Nat)}
    (hown : s.vm.findClass own = some m.cls) (hlink : (Cond.methodLink own index y).before args s = true) (hinst : (Cond.instanceMethod y).before args s = true) (hsel : (Cond.selects C y y).before args s = true)
    (hcode : (Cond.codeWith y bytes maxL ret hh).before args s = true) (hy : y.cls ≠ "java/lang/invoke/MethodHandle" ∧ y.cls ≠ "java/lang/invoke/VarHandle")
    {W9 : Nat} {Pre : Pt → Array Value → Prop} {Post : Pt → Array Value → Option Value → Pt → Prop} (hK : Back l R p e below s args y 3 W9 Pre Post)
    {b : Addr} {cellB : Cell} (hcell : T.heap[b]? = some cellB) (hobj : cellB.vm.isStatics = false) (hcls : s.vm.findClass C = some cellB.cls)
    {g : JFrame} (hg : g.method = m) (hsize : g.locals.size = c.maxLocals) {argsL rest : List Value} (hlen : ∀ sig, parseMethodDescriptor y.desc = some sig → argsL.length = sig.parameters.length)
    (hstack : g.stack = argsL.reverse ++ .ref b :: rest) (hW : 2 * g.monitorRoom + (rest.map fun v => v.category).sum ≤ W9) (hdg : decode c.code g.pc = .ok (.invokevirtual index, 3))
    (hpre : ∀ vm₁, s.WarmedH vm₁ → Pre ⟨T.setVm vm₁, locs, cells, slots⟩ (Value.ref b :: argsL).toArray) :
    ∃ (v : Option Value) (vm₁ : Vm) (B : Pt), s.WarmedH vm₁ ∧ Stand p l e R s m args below meth c B.U B.locs B.cells B.slots ∧ Post ⟨T.setVm vm₁, locs, cells, slots⟩ (Value.ref b :: argsL).toArray v B ∧
      ∀ target, Steps p.tables e below (B.U.setTop { g with pc := g.pc + 3, stack := v.toList ++ rest }) target → Steps p.tables e below (T.setTop g) target := by
  obtain ⟨mk, methM, hnamed, hmethM, hstM, habM⟩ := Cond.instanceMethod_spec hinst
  obtain ⟨m8, methM', cM, hn8, hmethM', -, -, -, -, -, -, hsigM⟩ := Cond.codeWith_spec hcode
  cases Option.some.inj (hn8.symm.trans hnamed)
  cases hmethM.symm.trans hmethM'
  obtain ⟨c2, r2, m2, q1, q2, q3, q4, kP, hkP, hkPi⟩ := Cond.selects_spec hsel
  cases hcls.symm.trans q1
  cases (State.methodFound?_of_named hnamed hy).symm.trans q2
  cases hnamed.symm.trans q3
  have hselP : selectMethod e.platform s.vm cellB.cls mk = .method mk := by rw [Launch.admits_selectMethod X.admits]; exact q4
  obtain ⟨vm₁, X₁, hstep₁⟩ := X.invokevirtual hexec hown hlink hnamed hmethM hstM hkP hkPi hy (a := b) (cell := cellB) hcell
    (fun z h => by rw [h] at hobj; cases hobj) hselP hmethM habM hkP hkPi (g := g) hg (argsL := argsL) (rest := rest) (hlen _ hsigM) hstack hdg
  obtain ⟨v, B, X', hpost, hsteps⟩ := hK m meth c ⟨T.setVm vm₁, locs, cells, slots⟩ { g with stack := rest } (.invokevirtual index) mk (Value.ref b :: argsL).toArray X₁ hg hsize hdg hW (X₁.named hnamed) (hpre vm₁ X₁.warmed)
  exact ⟨v, vm₁, B, X₁.warmed, X', hpost, fun target h => hstep₁ _ fun acts => by rw [doInvoke_state]; exact hsteps.trans h⟩
abbrev vx_CVW (R : Room) (s : State) (args : Array Value) (own C : String) (index : Nat) (y : MethodName) (bytes : ByteArray) (maxL : Nat) (ret : Option FieldType) (hh : List (Nat × Nat × Nat × Nat)) (ws : List Cond) (rm : Room) (mc ms n : Nat) : Prop :=
  (rm.cells = mc ∧ rm.slots = ms ∧ rm.frames + 1 ≤ R.frames ∧ 8 + (maxL + 11) + rm.locals ≤ R.locals ∧ (∀ w ∈ ws, ∀ (a' : Array Value) (U : State), s.WarmedH U.vm → w.before a' U = true) ∧ Cond.codeWith y bytes maxL ret hh ∈ ws) ∧
  (Cond.codeWith y bytes maxL ret hh).before args s = true ∧ (Cond.initialized y.cls).before args s = true ∧ (y.cls ≠ "java/lang/invoke/MethodHandle" ∧ y.cls ≠ "java/lang/invoke/VarHandle") ∧
  (∀ sig, parseMethodDescriptor y.desc = some sig → n = sig.parameters.length) ∧ (Cond.methodLink own index y).before args s = true ∧ (Cond.instanceMethod y).before args s = true ∧ (Cond.selects C y y).before args s = true
theorem vx_cwVW {own C : String} {index maxL mc ms : Nat} {y : MethodName} {bytes : ByteArray} {ret : Option FieldType} {hh : List (Nat × Nat × Nat × Nat)} {Ts ws ws' : List Cond} {rm : Room} (n : Nat) (ht : ∀ w ∈ Ts, w.before args s = true) (hT : GoodIn Ts (wsV own index C y ws)) (hw : ws = Cond.codeWith y bytes maxL ret hh :: ws') (hrc : rm.cells = mc) (hrs : rm.slots = ms)
    (hd : y.cls = C ∧ y.cls ≠ "java/lang/invoke/MethodHandle" ∧ y.cls ≠ "java/lang/invoke/VarHandle" ∧ (parseMethodDescriptor y.desc).map (fun d => d.parameters.length) = some n) (hR : rm.frames + 1 ≤ R.frames ∧ 8 + (maxL + 11) + rm.locals ≤ R.locals) :
    vx_CVW R s args own C index y bytes maxL ret hh ws rm mc ms n := by
  obtain ⟨hC, hd⟩ := hd
  subst hC
  have ok : ∀ w ∈ wsV own index y.cls y ws, w.before args s = true := fun w h => ht w (hT w h).1
  have hG : GoodIn Ts ws := fun w h => hT w (by unfold wsV; exact List.mem_append_right _ h)
  have hc : Cond.codeWith y bytes maxL ret hh ∈ ws := by rw [hw]; exact List.mem_cons_self
  refine ⟨⟨hrc, hrs, hR.1, hR.2, pay_in ht hG, hc⟩, ht _ (hG _ hc).1, ok _ (by simp [wsV]), ⟨hd.1, hd.2.1⟩, fun sig h => ?_, ok _ (by simp [wsV]), ok _ (by simp [wsV]), ok _ (by simp [wsV])⟩
  have h2 := hd.2.2
  rw [h] at h2
  exact (Option.some.inj h2).symm
theorem vx_runVW {y : MethodName} {bytes cc : ByteArray} {maxL nL mc ms n index : Nat} {ret : Option FieldType} {hh : List (Nat × Nat × Nat × Nat)} {ws : List Cond} {rm : Room} {Pc : Array Value → State → Prop} {Qc : Array Value → State → Outcome → State → Prop} {free : Addr → Prop} {Ts : List Cond} {own C : String} {b : Addr} {As rest : List Value} {g : JFrame}
    (S : CallFix p m c cc nL s args Ts own) (hM : Met l y ws rm Pc Qc mc ms free) (cw : vx_CVW R s args own C index y bytes maxL ret hh ws rm mc ms n) (hp : PreV s H C b Pc As)
    (hg : g.method = m) (hn : As.length = n) (hsize : g.locals.size = nL) (hstack : g.stack = As.reverse ++ .ref b :: rest) (hW : 2 * g.monitorRoom + (rest.map fun v => v.category).sum ≤ 8) (hdg : decode cc g.pc = .ok (.invokevirtual index, 3)) (hf : cells + mc ≤ R.cells ∧ slots + ms ≤ R.slots) :
    va_Run p l e R s m args below meth c H locs cells slots mc ms g rest (Qc (Value.ref b :: As).toArray) free := by
  obtain ⟨⟨hrc, hrs, hfr, hlo, hws, hcw⟩, hcode, hini, hy, hlen, hl, hin, hse⟩ := cw
  have hK : Back l R p e below s args y 3 8 (PreOf R mc ms Pc) (PostOf Qc mc ms free) := va_backW (hh := hh) (bytes := bytes) (maxL := maxL) (ret := ret) hM hp.1 hrc hrs hfr hlo hws hcw (fun a' U hW => word_at hW (Or.inl (by first | rfl | simp [Cond.onTables, Cond.keeps, Cond.steady])) hini)
  obtain ⟨hx, hb, hml, ho, -⟩ := S
  obtain ⟨-, ⟨cellB, hcB, hoB, hclB⟩, hPc⟩ := hp
  intro T hT X
  obtain ⟨v, vm₁, ⟨U', l2, c2, s2⟩, hW₁, X', ⟨g', mk, t, L, e1, e2, hq, h1, hL, h2, h3⟩, st⟩ := vx_callVW X hx (C := C) (hh := hh) (bytes := bytes) (maxL := maxL) (ret := ret) ho hl hin hse hcode hy hK (by rw [hT]; exact hcB) hoB hclB hg (hsize.trans hml.symm) (argsL := As) (rest := rest) (fun sig h => hn.trans (hlen sig h)) hstack hW (by rw [hb]; exact hdg)
    (fun vm₁ hW₁ => ⟨hf.1, hf.2, hPc (T.setVm vm₁) hT hW₁⟩)
  dsimp only [Pt.U, Pt.locs, Pt.cells, Pt.slots] at X' e1 e2 h1 h2 h3 st
  subst h1; subst h2; subst h3
  exact ⟨v, (T.setVm vm₁).calling g' mk (Value.ref b :: As).toArray, t, U', L, hT, X', hL, e1, e2, hq, st⟩
section
variable {y : MethodName} {bytes cc : ByteArray} {maxL nL mc ms n index : Nat} {ret : Option FieldType} {ws : List Cond} {rm : Room} {Pc : Array Value → State → Prop} {Qc : Array Value → State → Outcome → State → Prop} {XC : String → State → State → Prop} {free : Addr → Prop} {Ts : List Cond} {own C : String} {b : Addr} {As rest : List Value} {g : JFrame}
theorem vx_runVX {hh : List (Nat × Nat × Nat × Nat)} (S : CallFix p m c cc nL s args Ts own) (hM : vx_Met l y ws rm Pc Qc XC mc ms free) (cw : vx_CVW R s args own C index y bytes maxL ret hh ws rm mc ms n) (hp : PreV s H C b Pc As)
    (hg : g.method = m) (hn : As.length = n) (hsize : g.locals.size = nL) (hstack : g.stack = As.reverse ++ .ref b :: rest) (hW : 2 * g.monitorRoom + (rest.map fun v => v.category).sum ≤ 8) (hdg : decode cc g.pc = .ok (.invokevirtual index, 3)) (hf : cells + mc ≤ R.cells ∧ slots + ms ≤ R.slots) :
    vx_Run p l e R s m args below meth c H locs cells slots mc ms g rest (Qc (Value.ref b :: As).toArray) XC free := by
  obtain ⟨⟨hrc, hrs, hfr, hlo, hws, hcw⟩, hcode, hini, hy, hlen, hl, hin, hse⟩ := cw
  have hK : vx_Back l R p e below s args y 3 8 (PreOf R mc ms Pc) (PostOf Qc mc ms free) (vx_Post XC mc ms free) := vx_backW (hh := hh) (bytes := bytes) (maxL := maxL) (ret := ret) hM hp.1 hrc hrs hfr hlo hws hcw (fun a' U hW => word_at hW (Or.inl (by first | rfl | simp [Cond.onTables, Cond.keeps, Cond.steady])) hini)
  obtain ⟨hx, hb, hml, ho, -⟩ := S
  obtain ⟨-, ⟨cellB, hcB, hoB, hclB⟩, hPc⟩ := hp
  intro T hT X
  rcases vx_callVX X hx (C := C) (hh := hh) (bytes := bytes) (maxL := maxL) (ret := ret) ho hl hin hse hcode hy hK (by rw [hT]; exact hcB) hoB hclB hg (hsize.trans hml.symm) (argsL := As) (rest := rest) (fun sig h => hn.trans (hlen sig h)) hstack hW (by rw [hb]; exact hdg)
    (fun vm₁ hW₁ => ⟨hf.1, hf.2, hPc (T.setVm vm₁) hT hW₁⟩) with ⟨v, vm₁, ⟨U', l2, c2, s2⟩, hW₁, X', ⟨g', mk, t, L, e1, e2, hq, h1, hL, h2, h3⟩, st⟩ | ⟨q, vm₁, ⟨U', l2, c2, s2⟩, hW₁, X', ⟨g', mk, t, L, E, ce, e1, e2, hq, hce, hcv, hcl, h1, hL, h2, h3⟩, st⟩
  · dsimp only [Pt.U, Pt.locs, Pt.cells, Pt.slots] at X' e1 e2 h1 h2 h3 st
    subst h1; subst h2; subst h3
    exact Or.inl ⟨v, (T.setVm vm₁).calling g' mk (Value.ref b :: As).toArray, t, U', L, hT, X', hL, e1, e2, hq, st⟩
  · dsimp only [Pt.U, Pt.locs, Pt.cells, Pt.slots] at X' e1 e2 h1 h2 h3 st hcl
    subst h1; subst h2; subst h3
    exact Or.inr ⟨q, (T.setVm vm₁).calling g' mk (Value.ref b :: As).toArray, t, U', L, E, ce, hT, X', hL, e1, e2, hq, hce, hcv, vx_cls hW₁ hcl, st⟩
theorem vx_runSX {hh : List (Nat × Nat × Nat × Nat)} (S : CallFix p m c cc nL s args Ts own) (hM : vx_Met l y ws rm Pc Qc XC mc ms free) (cw : vx_CSW R s args own index y bytes maxL ret hh ws rm mc ms n) (hp : PreS s H Pc As)
    (hg : g.method = m) (hn : As.length = n) (hsize : g.locals.size = nL) (hstack : g.stack = As.reverse ++ rest) (hW : 2 * g.monitorRoom + (rest.map fun v => v.category).sum ≤ 8) (hdg : decode cc g.pc = .ok (.invokestatic index, 3)) (hf : cells + mc ≤ R.cells ∧ slots + ms ≤ R.slots) :
    vx_Run p l e R s m args below meth c H locs cells slots mc ms g rest (Qc As.toArray) XC free := by
  obtain ⟨⟨hrc, hrs, hfr, hlo, hws, hcw⟩, hcode, hini, hy, hlen, hl, hstt⟩ := cw
  have hK : vx_Back l R p e below s args y 3 8 (PreOf R mc ms Pc) (PostOf Qc mc ms free) (vx_Post XC mc ms free) := vx_backW (hh := hh) (bytes := bytes) (maxL := maxL) (ret := ret) hM hp.1 hrc hrs hfr hlo hws hcw (fun a' U hW => word_at hW (Or.inl (by first | rfl | simp [Cond.onTables, Cond.keeps, Cond.steady])) hini)
  obtain ⟨hx, hb, hml, ho, -⟩ := S
  intro T hT X
  rcases vx_callSX X hx (hh := hh) (bytes := bytes) (maxL := maxL) (ret := ret) ho hl hstt hini hcode hy hK hg (hsize.trans hml.symm) (argsL := As) (rest := rest) (fun sig h => hn.trans (hlen sig h)) hstack hW (by rw [hb]; exact hdg)
    (fun vm₁ hW₁ => ⟨hf.1, hf.2, hp.2 (T.setVm vm₁) hT hW₁⟩) with ⟨v, vm₁, ⟨U', l2, c2, s2⟩, hW₁, X', ⟨g', mk, t, L, e1, e2, hq, h1, hL, h2, h3⟩, st⟩ | ⟨q, vm₁, ⟨U', l2, c2, s2⟩, hW₁, X', ⟨g', mk, t, L, E, ce, e1, e2, hq, hce, hcv, hcl, h1, hL, h2, h3⟩, st⟩
  · dsimp only [Pt.U, Pt.locs, Pt.cells, Pt.slots] at X' e1 e2 h1 h2 h3 st
    subst h1; subst h2; subst h3
    exact Or.inl ⟨v, (T.setVm vm₁).calling g' mk As.toArray, t, U', L, hT, X', hL, e1, e2, hq, st⟩
  · dsimp only [Pt.U, Pt.locs, Pt.cells, Pt.slots] at X' e1 e2 h1 h2 h3 st hcl
    subst h1; subst h2; subst h3
    exact Or.inr ⟨q, (T.setVm vm₁).calling g' mk As.toArray, t, U', L, E, ce, hT, X', hL, e1, e2, hq, hce, hcv, vx_cls hW₁ hcl, st⟩
end
end VXH
theorem vx_ofWH {l : Launch} {y : MethodName} {ws ws' : List Cond} {rm : Room} {Pc : Array Value → State → Prop} {Qc : Array Value → State → Outcome → State → Prop} {XC : String → State → State → Prop} {mc ms : Nat} {free : Addr → Prop} {cc : ByteArray} {maxL : Nat} {ret : Option FieldType} {hh : List (Nat × Nat × Nat × Nat)}
    (hy : plainName y.cls = true) (hw : ws = Cond.codeWith y cc maxL ret hh :: ws')
    (body : ∀ p e s m args below meth c s₁, BodyLoose p l y (headSpec ws rm) cc maxL ret e s m args below meth c s₁ → c.maxLocals = maxL → Pc args s →
      W p l e (headSpec ws rm).room s m args below meth c s.heap [] 0 0 (vx_MQ below Qc XC args s mc ms free) (entryFrame m args maxL)) : vx_Met l y ws rm Pc Qc XC mc ms free := by
  refine MetFree.of_bodyS (code := cc) (maxLocals := maxL) (ret := ret) hy ?_ ?_
  · intro args s m h hn
    obtain ⟨m9, meth, c, hn9, h1, h2, h3, h4, -, h5, h6, -⟩ := Cond.codeWith_spec (atoms_spec (ws := ws) h _ (by rw [hw]; exact List.mem_cons_self))
    cases hn.symm.trans hn9
    exact ⟨meth, c, h1, h2, h3, h4, h5, h6⟩
  · intro p e s m args below meth c s₁ B hml hP _
    have hh0 : s₁.heap = s.heap := by rw [B.state]; rfl
    obtain ⟨t, a1, o, b1, b2, b3⟩ := body p e s m args below meth c s₁ B hml hP s₁ hh0 (Stand.of_body B)
    exact ⟨t, o, a1, b1, b2, b3⟩
/-! ===== END ===== -/
end
section
def RX0 : String := "EyeStage$1"
def TX0 : u_T := fun k => match k with
  | _ => ("", "", "", false)
def tyX0 : Nat → FieldType := fun k => match k with
  | _ => .int
theorem nmX0 : ∀ a, a < 0 → ∀ b, b < 0 → a ≠ b → (TX0 a).2.1 ≠ (TX0 b).2.1 := by decide +kernel
theorem tyX0_ok : ∀ k, k < 0 → parseFieldDescriptor (TX0 k).2.2.1 = some (tyX0 k) := by decide +kernel
def RX1 : String := "EyeStage$History"
def TX1 : u_T := fun k => match k with
  | 0 => ("EyeStage$History", "count", "I", false)
  | _ => ("EyeStage$History", "saved", "[LEyeStage$Stage;", true)
def tyX1 : Nat → FieldType := fun k => match k with
  | 0 => .int
  | _ => .array (.object "EyeStage$Stage")
theorem nmX1 : ∀ a, a < 2 → ∀ b, b < 2 → a ≠ b → (TX1 a).2.1 ≠ (TX1 b).2.1 := by decide +kernel
theorem tyX1_ok : ∀ k, k < 2 → parseFieldDescriptor (TX1 k).2.2.1 = some (tyX1 k) := by decide +kernel
abbrev cX1_init : ByteArray := prog_3_method_1_code
def yX1_init : MethodName := ⟨RX1, "<init>", "()V"⟩
abbrev cX1_save : ByteArray := prog_3_method_2_code
def yX1_save : MethodName := ⟨RX1, "save", "(LEyeStage$Stage;)V"⟩
abbrev cX1_dropOldest : ByteArray := prog_3_method_3_code
def yX1_dropOldest : MethodName := ⟨RX1, "dropOldest", "()V"⟩
abbrev cX1_restore : ByteArray := prog_3_method_4_code
def yX1_restore : MethodName := ⟨RX1, "restore", "(LEyeStage$Stage;)V"⟩
def RX2 : String := "EyeStage$Placing"
def TX2 : u_T := fun k => match k with
  | 0 => ("EyeStage$Placing", "stage", "LEyeStage$Stage;", true)
  | 1 => ("EyeStage$Placing", "tree", "LEyeStage$Tree;", true)
  | 2 => ("EyeStage$Placing", "x", "[I", true)
  | 3 => ("EyeStage$Placing", "y", "[I", true)
  | 4 => ("EyeStage$Placing", "z", "[I", true)
  | 5 => ("EyeStage$Placing", "shift", "[I", true)
  | 6 => ("EyeStage$Placing", "leftColumn", "[I", true)
  | 7 => ("EyeStage$Placing", "rightColumn", "[I", true)
  | 8 => ("EyeStage$Placing", "order", "[I", true)
  | 9 => ("EyeStage$Placing", "boxes", "I", false)
  | _ => ("EyeStage$Placing", "percentage", "I", false)
def tyX2 : Nat → FieldType := fun k => match k with
  | 0 => .object "EyeStage$Stage"
  | 1 => .object "EyeStage$Tree"
  | 2 => .array .int
  | 3 => .array .int
  | 4 => .array .int
  | 5 => .array .int
  | 6 => .array .int
  | 7 => .array .int
  | 8 => .array .int
  | 9 => .int
  | _ => .int
theorem nmX2 : ∀ a, a < 11 → ∀ b, b < 11 → a ≠ b → (TX2 a).2.1 ≠ (TX2 b).2.1 := by decide +kernel
theorem tyX2_ok : ∀ k, k < 11 → parseFieldDescriptor (TX2 k).2.2.1 = some (tyX2 k) := by decide +kernel
abbrev cX2_init : ByteArray := prog_4_method_1_code
def yX2_init : MethodName := ⟨RX2, "<init>", "()V"⟩
abbrev cX2_measure : ByteArray := prog_4_method_2_code
def yX2_measure : MethodName := ⟨RX2, "measure", "()V"⟩
abbrev cX2_placeNodes : ByteArray := prog_4_method_3_code
def yX2_placeNodes : MethodName := ⟨RX2, "placeNodes", "()V"⟩
abbrev cX2_putInOrder : ByteArray := prog_4_method_4_code
def yX2_putInOrder : MethodName := ⟨RX2, "putInOrder", "(I)V"⟩
abbrev cX2_isNearer : ByteArray := prog_4_method_5_code
def yX2_isNearer : MethodName := ⟨RX2, "isNearer", "(II)Z"⟩
abbrev cX2_rawShift : ByteArray := prog_4_method_6_code
def yX2_rawShift : MethodName := ⟨RX2, "rawShift", "(II)I"⟩
abbrev cX2_fits : ByteArray := prog_4_method_7_code
def yX2_fits : MethodName := ⟨RX2, "fits", "(IIII)Z"⟩
abbrev cX2_percentageWithin : ByteArray := prog_4_method_8_code
def yX2_percentageWithin : MethodName := ⟨RX2, "percentageWithin", "(II)I"⟩
abbrev cX2_gainThatFits : ByteArray := prog_4_method_9_code
def yX2_gainThatFits : MethodName := ⟨RX2, "gainThatFits", "()I"⟩
abbrev cX2_boxAt : ByteArray := prog_4_method_10_code
def yX2_boxAt : MethodName := ⟨RX2, "boxAt", "(I)I"⟩
abbrev cX2_column : ByteArray := prog_4_method_11_code
def yX2_column : MethodName := ⟨RX2, "column", "(ZI)I"⟩
abbrev cX2_inRow : ByteArray := prog_4_method_12_code
def yX2_inRow : MethodName := ⟨RX2, "inRow", "(II)Z"⟩
abbrev cX2_inFrame : ByteArray := prog_4_method_13_code
def yX2_inFrame : MethodName := ⟨RX2, "inFrame", "(I)Z"⟩
abbrev cX2_frontBox : ByteArray := prog_4_method_14_code
def yX2_frontBox : MethodName := ⟨RX2, "frontBox", "(ZII)I"⟩
abbrev cX2_valueOf : ByteArray := prog_4_method_15_code
def yX2_valueOf : MethodName := ⟨RX2, "valueOf", "(II)I"⟩
def RX3 : String := "EyeStage$Schedule"
def TX3 : u_T := fun k => match k with
  | 0 => ("EyeStage$Schedule", "count", "I", false)
  | 1 => ("EyeStage$Schedule", "time", "I", false)
  | 2 => ("EyeStage$Schedule", "low", "I", false)
  | 3 => ("EyeStage$Schedule", "high", "I", false)
  | 4 => ("EyeStage$Schedule", "least", "[I", true)
  | 5 => ("EyeStage$Schedule", "greatest", "[I", true)
  | _ => ("EyeStage$Schedule", "ticks", "[I", true)
def tyX3 : Nat → FieldType := fun k => match k with
  | 0 => .int
  | 1 => .int
  | 2 => .int
  | 3 => .int
  | 4 => .array .int
  | 5 => .array .int
  | _ => .array .int
theorem nmX3 : ∀ a, a < 7 → ∀ b, b < 7 → a ≠ b → (TX3 a).2.1 ≠ (TX3 b).2.1 := by decide +kernel
theorem tyX3_ok : ∀ k, k < 7 → parseFieldDescriptor (TX3 k).2.2.1 = some (tyX3 k) := by decide +kernel
abbrev cX3_init : ByteArray := prog_5_method_1_code
def yX3_init : MethodName := ⟨RX3, "<init>", "()V"⟩
abbrev cX3_has : ByteArray := prog_5_method_2_code
def yX3_has : MethodName := ⟨RX3, "has", "(I)Z"⟩
abbrev cX3_faultOfScene : ByteArray := prog_5_method_3_code
def yX3_faultOfScene : MethodName := ⟨RX3, "faultOfScene", "(III)I"⟩
abbrev cX3_append : ByteArray := prog_5_method_4_code
def yX3_append : MethodName := ⟨RX3, "append", "(III)I"⟩
abbrev cX3_clear : ByteArray := prog_5_method_5_code
def yX3_clear : MethodName := ⟨RX3, "clear", "()V"⟩
abbrev cX3_beginOf : ByteArray := prog_5_method_6_code
def yX3_beginOf : MethodName := ⟨RX3, "beginOf", "(I)I"⟩
abbrev cX3_present : ByteArray := prog_5_method_7_code
def yX3_present : MethodName := ⟨RX3, "present", "()I"⟩
abbrev cX3_passTick : ByteArray := prog_5_method_8_code
def yX3_passTick : MethodName := ⟨RX3, "passTick", "(I)V"⟩
abbrev cX3_towards : ByteArray := prog_5_method_9_code
def yX3_towards : MethodName := ⟨RX3, "towards", "(III)I"⟩
abbrev cX3_valueOf : ByteArray := prog_5_method_10_code
def yX3_valueOf : MethodName := ⟨RX3, "valueOf", "(II)I"⟩
abbrev cX3_copyFrom : ByteArray := prog_5_method_11_code
def yX3_copyFrom : MethodName := ⟨RX3, "copyFrom", "(LEyeStage$Schedule;)V"⟩
def RX4 : String := "EyeStage$Script"
def TX4 : u_T := fun k => match k with
  | 0 => ("EyeStage$Script", "length", "I", false)
  | 1 => ("EyeStage$Script", "bytes", "[I", true)
  | 2 => ("EyeStage$Script", "numbers", "[I", true)
  | 3 => ("EyeStage$Script", "at", "I", false)
  | _ => ("EyeStage$Script", "word", "LEyeStage$Word;", false)
def tyX4 : Nat → FieldType := fun k => match k with
  | 0 => .int
  | 1 => .array .int
  | 2 => .array .int
  | 3 => .int
  | _ => .object "EyeStage$Word"
theorem nmX4 : ∀ a, a < 5 → ∀ b, b < 5 → a ≠ b → (TX4 a).2.1 ≠ (TX4 b).2.1 := by decide +kernel
theorem tyX4_ok : ∀ k, k < 5 → parseFieldDescriptor (TX4 k).2.2.1 = some (tyX4 k) := by decide +kernel
abbrev cX4_init : ByteArray := prog_6_method_1_code
def yX4_init : MethodName := ⟨RX4, "<init>", "()V"⟩
abbrev cX4_append : ByteArray := prog_6_method_2_code
def yX4_append : MethodName := ⟨RX4, "append", "(I)I"⟩
abbrev cX4_byteAt : ByteArray := prog_6_method_3_code
def yX4_byteAt : MethodName := ⟨RX4, "byteAt", "(I)I"⟩
abbrev cX4_skipSpaces : ByteArray := prog_6_method_4_code
def yX4_skipSpaces : MethodName := ⟨RX4, "skipSpaces", "()V"⟩
abbrev cX4_findFault : ByteArray := prog_6_method_5_code
def yX4_findFault : MethodName := ⟨RX4, "findFault", "()I"⟩
abbrev cX4_runOn : ByteArray := prog_6_method_6_code
def yX4_runOn : MethodName := ⟨RX4, "runOn", "(LEyeStage$Stage;)I"⟩
abbrev cX4_readCommand : ByteArray := prog_6_method_7_code
def yX4_readCommand : MethodName := ⟨RX4, "readCommand", "()Z"⟩
abbrev cX4_wordBetween : ByteArray := prog_6_method_8_code
def yX4_wordBetween : MethodName := ⟨RX4, "wordBetween", "(II)LEyeStage$Word;"⟩
abbrev cX4_isWritten : ByteArray := prog_6_method_9_code
def yX4_isWritten : MethodName := ⟨RX4, "isWritten", "(Ljava/lang/String;II)Z"⟩
abbrev cX4_readNumber : ByteArray := prog_6_method_10_code
def yX4_readNumber : MethodName := ⟨RX4, "readNumber", "(I)Z"⟩
abbrev cX4_isDigit : ByteArray := prog_6_method_11_code
def yX4_isDigit : MethodName := ⟨RX4, "isDigit", "(I)Z"⟩
abbrev cX4_carryOut : ByteArray := prog_6_method_12_code
def yX4_carryOut : MethodName := ⟨RX4, "carryOut", "(LEyeStage$Stage;)Z"⟩
abbrev cX4_faultOn : ByteArray := prog_6_method_13_code
def yX4_faultOn : MethodName := ⟨RX4, "faultOn", "(LEyeStage$Stage;LEyeStage$Word;)I"⟩
abbrev cX4_applyTo : ByteArray := prog_6_method_14_code
def yX4_applyTo : MethodName := ⟨RX4, "applyTo", "(LEyeStage$Stage;LEyeStage$Word;)V"⟩
def RX5 : String := "EyeStage$Stage"
def TX5 : u_T := fun k => match k with
  | 0 => ("EyeStage$Stage", "tree", "LEyeStage$Tree;", true)
  | 1 => ("EyeStage$Stage", "schedule", "LEyeStage$Schedule;", true)
  | 2 => ("EyeStage$Stage", "settings", "[I", true)
  | 3 => ("EyeStage$Stage", "width", "I", false)
  | 4 => ("EyeStage$Stage", "height", "I", false)
  | 5 => ("EyeStage$Stage", "titleX", "I", false)
  | 6 => ("EyeStage$Stage", "titleY", "I", false)
  | _ => ("EyeStage$Stage", "titleLength", "I", false)
def tyX5 : Nat → FieldType := fun k => match k with
  | 0 => .object "EyeStage$Tree"
  | 1 => .object "EyeStage$Schedule"
  | 2 => .array .int
  | 3 => .int
  | 4 => .int
  | 5 => .int
  | 6 => .int
  | _ => .int
theorem nmX5 : ∀ a, a < 8 → ∀ b, b < 8 → a ≠ b → (TX5 a).2.1 ≠ (TX5 b).2.1 := by decide +kernel
theorem tyX5_ok : ∀ k, k < 8 → parseFieldDescriptor (TX5 k).2.2.1 = some (tyX5 k) := by decide +kernel
abbrev cX5_init : ByteArray := prog_7_method_1_code
def yX5_init : MethodName := ⟨RX5, "<init>", "()V"⟩
abbrev cX5_faultOfFrame : ByteArray := prog_7_method_2_code
def yX5_faultOfFrame : MethodName := ⟨RX5, "faultOfFrame", "(II)I"⟩
abbrev cX5_reframe : ByteArray := prog_7_method_3_code
def yX5_reframe : MethodName := ⟨RX5, "reframe", "(II)I"⟩
abbrev cX5_faultOfCell : ByteArray := prog_7_method_4_code
def yX5_faultOfCell : MethodName := ⟨RX5, "faultOfCell", "(II)I"⟩
abbrev cX5_faultOfSetting : ByteArray := prog_7_method_5_code
def yX5_faultOfSetting : MethodName := ⟨RX5, "faultOfSetting", "(II)I"⟩
abbrev cX5_change : ByteArray := prog_7_method_6_code
def yX5_change : MethodName := ⟨RX5, "change", "(II)I"⟩
abbrev cX5_faultOfTitle : ByteArray := prog_7_method_7_code
def yX5_faultOfTitle : MethodName := ⟨RX5, "faultOfTitle", "(III)I"⟩
abbrev cX5_entitle : ByteArray := prog_7_method_8_code
def yX5_entitle : MethodName := ⟨RX5, "entitle", "(III)I"⟩
abbrev cX5_faultOfTicks : ByteArray := prog_7_method_9_code
def yX5_faultOfTicks : MethodName := ⟨RX5, "faultOfTicks", "(I)I"⟩
abbrev cX5_pass : ByteArray := prog_7_method_10_code
def yX5_pass : MethodName := ⟨RX5, "pass", "(I)I"⟩
abbrev cX5_copyFrom : ByteArray := prog_7_method_11_code
def yX5_copyFrom : MethodName := ⟨RX5, "copyFrom", "(LEyeStage$Stage;)V"⟩
def RX6 : String := "EyeStage$Tree"
def TX6 : u_T := fun k => match k with
  | 0 => ("EyeStage$Tree", "count", "I", false)
  | 1 => ("EyeStage$Tree", "parent", "[I", true)
  | 2 => ("EyeStage$Tree", "around", "[I", true)
  | 3 => ("EyeStage$Tree", "dx", "[I", true)
  | 4 => ("EyeStage$Tree", "dy", "[I", true)
  | 5 => ("EyeStage$Tree", "dz", "[I", true)
  | 6 => ("EyeStage$Tree", "width", "[I", true)
  | 7 => ("EyeStage$Tree", "height", "[I", true)
  | 8 => ("EyeStage$Tree", "shades", "[I", true)
  | _ => ("EyeStage$Tree", "renumbered", "[I", true)
def tyX6 : Nat → FieldType := fun k => match k with
  | 0 => .int
  | 1 => .array .int
  | 2 => .array .int
  | 3 => .array .int
  | 4 => .array .int
  | 5 => .array .int
  | 6 => .array .int
  | 7 => .array .int
  | 8 => .array .int
  | _ => .array .int
theorem nmX6 : ∀ a, a < 10 → ∀ b, b < 10 → a ≠ b → (TX6 a).2.1 ≠ (TX6 b).2.1 := by decide +kernel
theorem tyX6_ok : ∀ k, k < 10 → parseFieldDescriptor (TX6 k).2.2.1 = some (tyX6 k) := by decide +kernel
abbrev cX6_init : ByteArray := prog_8_method_1_code
def yX6_init : MethodName := ⟨RX6, "<init>", "()V"⟩
abbrev cX6_has : ByteArray := prog_8_method_2_code
def yX6_has : MethodName := ⟨RX6, "has", "(I)Z"⟩
abbrev cX6_isBox : ByteArray := prog_8_method_3_code
def yX6_isBox : MethodName := ⟨RX6, "isBox", "(I)Z"⟩
abbrev cX6_boxes : ByteArray := prog_8_method_4_code
def yX6_boxes : MethodName := ⟨RX6, "boxes", "()I"⟩
abbrev cX6_children : ByteArray := prog_8_method_5_code
def yX6_children : MethodName := ⟨RX6, "children", "(I)I"⟩
abbrev cX6_faultOfNumber : ByteArray := prog_8_method_6_code
def yX6_faultOfNumber : MethodName := ⟨RX6, "faultOfNumber", "(I)I"⟩
abbrev cX6_isCoordinate : ByteArray := prog_8_method_7_code
def yX6_isCoordinate : MethodName := ⟨RX6, "isCoordinate", "(I)Z"⟩
abbrev cX6_isPlace : ByteArray := prog_8_method_8_code
def yX6_isPlace : MethodName := ⟨RX6, "isPlace", "(III)Z"⟩
abbrev cX6_faultOfGroup : ByteArray := prog_8_method_9_code
def yX6_faultOfGroup : MethodName := ⟨RX6, "faultOfGroup", "(IIII)I"⟩
abbrev cX6_faultOfBox : ByteArray := prog_8_method_10_code
def yX6_faultOfBox : MethodName := ⟨RX6, "faultOfBox", "(IIIIII)I"⟩
abbrev cX6_faultOfPlacing : ByteArray := prog_8_method_11_code
def yX6_faultOfPlacing : MethodName := ⟨RX6, "faultOfPlacing", "(IIII)I"⟩
abbrev cX6_faultOfColour : ByteArray := prog_8_method_12_code
def yX6_faultOfColour : MethodName := ⟨RX6, "faultOfColour", "(II)I"⟩
abbrev cX6_aroundChildOf : ByteArray := prog_8_method_13_code
def yX6_aroundChildOf : MethodName := ⟨RX6, "aroundChildOf", "(I)I"⟩
abbrev cX6_appendGroup : ByteArray := prog_8_method_14_code
def yX6_appendGroup : MethodName := ⟨RX6, "appendGroup", "(IIII)I"⟩
abbrev cX6_appendBox : ByteArray := prog_8_method_15_code
def yX6_appendBox : MethodName := ⟨RX6, "appendBox", "(IIIIII)I"⟩
abbrev cX6_placeAt : ByteArray := prog_8_method_16_code
def yX6_placeAt : MethodName := ⟨RX6, "placeAt", "(IIII)I"⟩
abbrev cX6_colour : ByteArray := prog_8_method_17_code
def yX6_colour : MethodName := ⟨RX6, "colour", "(II)I"⟩
abbrev cX6_drop : ByteArray := prog_8_method_18_code
def yX6_drop : MethodName := ⟨RX6, "drop", "(I)I"⟩
abbrev cX6_shiftDown : ByteArray := prog_8_method_19_code
def yX6_shiftDown : MethodName := ⟨RX6, "shiftDown", "(II)V"⟩
abbrev cX6_copyFrom : ByteArray := prog_8_method_20_code
def yX6_copyFrom : MethodName := ⟨RX6, "copyFrom", "(LEyeStage$Tree;)V"⟩
def RX7 : String := "EyeStage$View"
def TX7 : u_T := fun k => match k with
  | 0 => ("EyeStage$View", "placing", "LEyeStage$Placing;", true)
  | 1 => ("EyeStage$View", "stage", "LEyeStage$Stage;", true)
  | 2 => ("EyeStage$View", "tree", "LEyeStage$Tree;", true)
  | 3 => ("EyeStage$View", "leftEdge", "I", false)
  | 4 => ("EyeStage$View", "rightEdge", "I", false)
  | 5 => ("EyeStage$View", "titleRow", "I", false)
  | 6 => ("EyeStage$View", "titleShift", "I", false)
  | 7 => ("EyeStage$View", "leftCells", "[I", true)
  | 8 => ("EyeStage$View", "rightCells", "[I", true)
  | _ => ("EyeStage$View", "heldRow", "I", false)
def tyX7 : Nat → FieldType := fun k => match k with
  | 0 => .object "EyeStage$Placing"
  | 1 => .object "EyeStage$Stage"
  | 2 => .object "EyeStage$Tree"
  | 3 => .int
  | 4 => .int
  | 5 => .int
  | 6 => .int
  | 7 => .array .int
  | 8 => .array .int
  | _ => .int
theorem nmX7 : ∀ a, a < 10 → ∀ b, b < 10 → a ≠ b → (TX7 a).2.1 ≠ (TX7 b).2.1 := by decide +kernel
theorem tyX7_ok : ∀ k, k < 10 → parseFieldDescriptor (TX7 k).2.2.1 = some (tyX7 k) := by decide +kernel
abbrev cX7_init : ByteArray := prog_9_method_1_code
def yX7_init : MethodName := ⟨RX7, "<init>", "()V"⟩
abbrev cX7_measure : ByteArray := prog_9_method_2_code
def yX7_measure : MethodName := ⟨RX7, "measure", "()V"⟩
abbrev cX7_windowShift : ByteArray := prog_9_method_3_code
def yX7_windowShift : MethodName := ⟨RX7, "windowShift", "(Z)I"⟩
abbrev cX7_greatestCut : ByteArray := prog_9_method_4_code
def yX7_greatestCut : MethodName := ⟨RX7, "greatestCut", "(ZI)I"⟩
abbrev cX7_isCut : ByteArray := prog_9_method_5_code
def yX7_isCut : MethodName := ⟨RX7, "isCut", "(ZII)Z"⟩
abbrev cX7_crosses : ByteArray := prog_9_method_6_code
def yX7_crosses : MethodName := ⟨RX7, "crosses", "(III)Z"⟩
abbrev cX7_findTitle : ByteArray := prog_9_method_7_code
def yX7_findTitle : MethodName := ⟨RX7, "findTitle", "()V"⟩
abbrev cX7_titleCanStand : ByteArray := prog_9_method_8_code
def yX7_titleCanStand : MethodName := ⟨RX7, "titleCanStand", "(ZII)Z"⟩
abbrev cX7_firstOpen : ByteArray := prog_9_method_9_code
def yX7_firstOpen : MethodName := ⟨RX7, "firstOpen", "(Z)I"⟩
abbrev cX7_endOfOpen : ByteArray := prog_9_method_10_code
def yX7_endOfOpen : MethodName := ⟨RX7, "endOfOpen", "(Z)I"⟩
abbrev cX7_titleColumn : ByteArray := prog_9_method_11_code
def yX7_titleColumn : MethodName := ⟨RX7, "titleColumn", "(Z)I"⟩
abbrev cX7_titleValue : ByteArray := prog_9_method_12_code
def yX7_titleValue : MethodName := ⟨RX7, "titleValue", "(I)I"⟩
abbrev cX7_wholeValue : ByteArray := prog_9_method_13_code
def yX7_wholeValue : MethodName := ⟨RX7, "wholeValue", "(I)I"⟩
abbrev cX7_shadeAt : ByteArray := prog_9_method_14_code
def yX7_shadeAt : MethodName := ⟨RX7, "shadeAt", "(ZII)I"⟩
abbrev cX7_ghostAt : ByteArray := prog_9_method_15_code
def yX7_ghostAt : MethodName := ⟨RX7, "ghostAt", "(II)I"⟩
abbrev cX7_ghostOf : ByteArray := prog_9_method_16_code
def yX7_ghostOf : MethodName := ⟨RX7, "ghostOf", "(II)I"⟩
abbrev cX7_countGhosts : ByteArray := prog_9_method_17_code
def yX7_countGhosts : MethodName := ⟨RX7, "countGhosts", "(I)I"⟩
abbrev cX7_countInHeldRow : ByteArray := prog_9_method_18_code
def yX7_countInHeldRow : MethodName := ⟨RX7, "countInHeldRow", "(I)I"⟩
abbrev cX7_sumOfGhosts : ByteArray := prog_9_method_19_code
def yX7_sumOfGhosts : MethodName := ⟨RX7, "sumOfGhosts", "(I)I"⟩
abbrev cX7_hashImages : ByteArray := prog_9_method_20_code
def yX7_hashImages : MethodName := ⟨RX7, "hashImages", "(J)J"⟩
abbrev cX7_holdRow : ByteArray := prog_9_method_21_code
def yX7_holdRow : MethodName := ⟨RX7, "holdRow", "(I)Z"⟩
abbrev cX7_isLikeAbove : ByteArray := prog_9_method_22_code
def yX7_isLikeAbove : MethodName := ⟨RX7, "isLikeAbove", "(I)Z"⟩
abbrev cX7_paintRow : ByteArray := prog_9_method_23_code
def yX7_paintRow : MethodName := ⟨RX7, "paintRow", "(ZI[I)V"⟩
abbrev cX7_fill : ByteArray := prog_9_method_24_code
def yX7_fill : MethodName := ⟨RX7, "fill", "([IIII)V"⟩
def RX8 : String := "EyeStage$Word"
def TX8 : u_T := fun k => match k with
  | _ => ("", "", "", false)
def tyX8 : Nat → FieldType := fun k => match k with
  | _ => .int
theorem nmX8 : ∀ a, a < 0 → ∀ b, b < 0 → a ≠ b → (TX8 a).2.1 ≠ (TX8 b).2.1 := by decide +kernel
theorem tyX8_ok : ∀ k, k < 0 → parseFieldDescriptor (TX8 k).2.2.1 = some (tyX8 k) := by decide +kernel
def RX9 : String := "EyeStage"
def TX9 : u_T := fun k => match k with
  | 0 => ("EyeStage", "view", "LEyeStage$View;", true)
  | 1 => ("EyeStage", "stage", "LEyeStage$Stage;", true)
  | 2 => ("EyeStage", "otherView", "LEyeStage$View;", true)
  | 3 => ("EyeStage", "otherStage", "LEyeStage$Stage;", true)
  | 4 => ("EyeStage", "history", "LEyeStage$History;", true)
  | 5 => ("EyeStage", "script", "LEyeStage$Script;", true)
  | _ => ("EyeStage", "stale", "Z", false)
def tyX9 : Nat → FieldType := fun k => match k with
  | 0 => .object "EyeStage$View"
  | 1 => .object "EyeStage$Stage"
  | 2 => .object "EyeStage$View"
  | 3 => .object "EyeStage$Stage"
  | 4 => .object "EyeStage$History"
  | 5 => .object "EyeStage$Script"
  | _ => .boolean
theorem nmX9 : ∀ a, a < 7 → ∀ b, b < 7 → a ≠ b → (TX9 a).2.1 ≠ (TX9 b).2.1 := by decide +kernel
theorem tyX9_ok : ∀ k, k < 7 → parseFieldDescriptor (TX9 k).2.2.1 = some (tyX9 k) := by decide +kernel
abbrev cX9_init : ByteArray := prog_1_method_1_code
def yX9_init : MethodName := ⟨RX9, "<init>", "()V"⟩
abbrev cX9_begin : ByteArray := prog_1_method_2_code
def yX9_begin : MethodName := ⟨RX9, "begin", "(II)I"⟩
abbrev cX9_addGroup : ByteArray := prog_1_method_3_code
def yX9_addGroup : MethodName := ⟨RX9, "addGroup", "(IIII)I"⟩
abbrev cX9_addBox : ByteArray := prog_1_method_4_code
def yX9_addBox : MethodName := ⟨RX9, "addBox", "(IIIIII)I"⟩
abbrev cX9_move : ByteArray := prog_1_method_5_code
def yX9_move : MethodName := ⟨RX9, "move", "(IIII)I"⟩
abbrev cX9_setShade : ByteArray := prog_1_method_6_code
def yX9_setShade : MethodName := ⟨RX9, "setShade", "(II)I"⟩
abbrev cX9_removeNode : ByteArray := prog_1_method_7_code
def yX9_removeNode : MethodName := ⟨RX9, "removeNode", "(I)I"⟩
abbrev cX9_addScene : ByteArray := prog_1_method_8_code
def yX9_addScene : MethodName := ⟨RX9, "addScene", "(III)I"⟩
abbrev cX9_set : ByteArray := prog_1_method_9_code
def yX9_set : MethodName := ⟨RX9, "set", "(II)I"⟩
abbrev cX9_setTitle : ByteArray := prog_1_method_10_code
def yX9_setTitle : MethodName := ⟨RX9, "setTitle", "(III)I"⟩
abbrev cX9_clearTitle : ByteArray := prog_1_method_11_code
def yX9_clearTitle : MethodName := ⟨RX9, "clearTitle", "()I"⟩
abbrev cX9_tick : ByteArray := prog_1_method_12_code
def yX9_tick : MethodName := ⟨RX9, "tick", "(I)I"⟩
abbrev cX9_node : ByteArray := prog_1_method_13_code
def yX9_node : MethodName := ⟨RX9, "node", "(II)I"⟩
abbrev cX9_painted : ByteArray := prog_1_method_14_code
def yX9_painted : MethodName := ⟨RX9, "painted", "(I)I"⟩
abbrev cX9_scene : ByteArray := prog_1_method_15_code
def yX9_scene : MethodName := ⟨RX9, "scene", "(II)I"⟩
abbrev cX9_title : ByteArray := prog_1_method_16_code
def yX9_title : MethodName := ⟨RX9, "title", "(I)I"⟩
abbrev cX9_whole : ByteArray := prog_1_method_17_code
def yX9_whole : MethodName := ⟨RX9, "whole", "(I)I"⟩
abbrev cX9_shade : ByteArray := prog_1_method_18_code
def yX9_shade : MethodName := ⟨RX9, "shade", "(ZII)I"⟩
abbrev cX9_shown : ByteArray := prog_1_method_19_code
def yX9_shown : MethodName := ⟨RX9, "shown", "(ZII)I"⟩
abbrev cX9_ghost : ByteArray := prog_1_method_20_code
def yX9_ghost : MethodName := ⟨RX9, "ghost", "(II)I"⟩
abbrev cX9_ghosts : ByteArray := prog_1_method_21_code
def yX9_ghosts : MethodName := ⟨RX9, "ghosts", "(I)I"⟩
abbrev cX9_meanGhost : ByteArray := prog_1_method_22_code
def yX9_meanGhost : MethodName := ⟨RX9, "meanGhost", "(I)D"⟩
abbrev cX9_percentageFor : ByteArray := prog_1_method_23_code
def yX9_percentageFor : MethodName := ⟨RX9, "percentageFor", "(II)I"⟩
abbrev cX9_fittingGain : ByteArray := prog_1_method_24_code
def yX9_fittingGain : MethodName := ⟨RX9, "fittingGain", "()I"⟩
abbrev cX9_fullAfter : ByteArray := prog_1_method_25_code
def yX9_fullAfter : MethodName := ⟨RX9, "fullAfter", "(I)I"⟩
abbrev cX9_ghostsWithout : ByteArray := prog_1_method_26_code
def yX9_ghostsWithout : MethodName := ⟨RX9, "ghostsWithout", "(II)I"⟩
abbrev cX9_type : ByteArray := prog_1_method_27_code
def yX9_type : MethodName := ⟨RX9, "type", "(I)I"⟩
abbrev cX9_clearCommands : ByteArray := prog_1_method_28_code
def yX9_clearCommands : MethodName := ⟨RX9, "clearCommands", "()I"⟩
abbrev cX9_runCommands : ByteArray := prog_1_method_29_code
def yX9_runCommands : MethodName := ⟨RX9, "runCommands", "()I"⟩
abbrev cX9_undo : ByteArray := prog_1_method_30_code
def yX9_undo : MethodName := ⟨RX9, "undo", "()I"⟩
abbrev cX9_digest : ByteArray := prog_1_method_31_code
def yX9_digest : MethodName := ⟨RX9, "digest", "()J"⟩
abbrev cX9_keepState : ByteArray := prog_1_method_32_code
def yX9_keepState : MethodName := ⟨RX9, "keepState", "()V"⟩
abbrev cX9_freshView : ByteArray := prog_1_method_33_code
def yX9_freshView : MethodName := ⟨RX9, "freshView", "()LEyeStage$View;"⟩
abbrev cX9_refuse : ByteArray := prog_1_method_34_code
def yX9_refuse : MethodName := ⟨RX9, "refuse", "(I)V"⟩
abbrev cX9_within : ByteArray := prog_1_method_35_code
def yX9_within : MethodName := ⟨RX9, "within", "(III)Z"⟩
abbrev cX9_faultOfRange : ByteArray := prog_1_method_36_code
def yX9_faultOfRange : MethodName := ⟨RX9, "faultOfRange", "(III)I"⟩
abbrev cX9_faultOfBudget : ByteArray := prog_1_method_37_code
def yX9_faultOfBudget : MethodName := ⟨RX9, "faultOfBudget", "(II)I"⟩
abbrev cX9_columnOf : ByteArray := prog_1_method_38_code
def yX9_columnOf : MethodName := ⟨RX9, "columnOf", "(ZII)I"⟩
abbrev cX9_copyRow : ByteArray := prog_1_method_39_code
def yX9_copyRow : MethodName := ⟨RX9, "copyRow", "([I[I)V"⟩
def RX10 : String := "EyeStageModel"
def TX10 : u_T := fun k => match k with
  | 0 => ("EyeStageModel", "m", "[I", true)
  | 1 => ("EyeStageModel", "spare", "[I", true)
  | 2 => ("EyeStageModel", "saved", "[I", true)
  | 3 => ("EyeStageModel", "savedCount", "I", false)
  | 4 => ("EyeStageModel", "text", "[I", true)
  | 5 => ("EyeStageModel", "textLength", "I", false)
  | 6 => ("EyeStageModel", "code", "I", false)
  | 7 => ("EyeStageModel", "newNumbers", "[I", true)
  | 8 => ("EyeStageModel", "x", "[I", true)
  | 9 => ("EyeStageModel", "y", "[I", true)
  | 10 => ("EyeStageModel", "z", "[I", true)
  | 11 => ("EyeStageModel", "shift", "[I", true)
  | 12 => ("EyeStageModel", "percentage", "I", false)
  | 13 => ("EyeStageModel", "order", "[I", true)
  | 14 => ("EyeStageModel", "boxes", "I", false)
  | 15 => ("EyeStageModel", "maskLeft", "I", false)
  | 16 => ("EyeStageModel", "maskRight", "I", false)
  | 17 => ("EyeStageModel", "isShown", "Z", false)
  | 18 => ("EyeStageModel", "titleRow", "I", false)
  | 19 => ("EyeStageModel", "titleShift", "I", false)
  | 20 => ("EyeStageModel", "place", "I", false)
  | 21 => ("EyeStageModel", "command", "I", false)
  | 22 => ("EyeStageModel", "numbers", "[I", true)
  | _ => ("EyeStageModel", "hash", "J", false)
def tyX10 : Nat → FieldType := fun k => match k with
  | 0 => .array .int
  | 1 => .array .int
  | 2 => .array .int
  | 3 => .int
  | 4 => .array .int
  | 5 => .int
  | 6 => .int
  | 7 => .array .int
  | 8 => .array .int
  | 9 => .array .int
  | 10 => .array .int
  | 11 => .array .int
  | 12 => .int
  | 13 => .array .int
  | 14 => .int
  | 15 => .int
  | 16 => .int
  | 17 => .boolean
  | 18 => .int
  | 19 => .int
  | 20 => .int
  | 21 => .int
  | 22 => .array .int
  | _ => .long
theorem nmX10 : ∀ a, a < 24 → ∀ b, b < 24 → a ≠ b → (TX10 a).2.1 ≠ (TX10 b).2.1 := by decide +kernel
theorem tyX10_ok : ∀ k, k < 24 → parseFieldDescriptor (TX10 k).2.2.1 = some (tyX10 k) := by decide +kernel
abbrev cX10_init : ByteArray := prog_12_method_1_code
def yX10_init : MethodName := ⟨RX10, "<init>", "()V"⟩
abbrev cX10_anew : ByteArray := prog_12_method_2_code
def yX10_anew : MethodName := ⟨RX10, "anew", "(II)V"⟩
abbrev cX10_thrown : ByteArray := prog_12_method_3_code
def yX10_thrown : MethodName := ⟨RX10, "thrown", "()I"⟩
abbrev cX10_in : ByteArray := prog_12_method_4_code
def yX10_in : MethodName := ⟨RX10, "in", "(III)Z"⟩
abbrev cX10_floor : ByteArray := prog_12_method_5_code
def yX10_floor : MethodName := ⟨RX10, "floor", "(II)I"⟩
abbrev cX10_greater : ByteArray := prog_12_method_6_code
def yX10_greater : MethodName := ⟨RX10, "greater", "(II)I"⟩
abbrev cX10_bring : ByteArray := prog_12_method_7_code
def yX10_bring : MethodName := ⟨RX10, "bring", "([II[II)V"⟩
abbrev cX10_keep : ByteArray := prog_12_method_8_code
def yX10_keep : MethodName := ⟨RX10, "keep", "()V"⟩
abbrev cX10_isNode : ByteArray := prog_12_method_9_code
def yX10_isNode : MethodName := ⟨RX10, "isNode", "(I)Z"⟩
abbrev cX10_of : ByteArray := prog_12_method_10_code
def yX10_of : MethodName := ⟨RX10, "of", "(II)I"⟩
abbrev cX10_isBox : ByteArray := prog_12_method_11_code
def yX10_isBox : MethodName := ⟨RX10, "isBox", "(I)Z"⟩
abbrev cX10_groupsAround : ByteArray := prog_12_method_12_code
def yX10_groupsAround : MethodName := ⟨RX10, "groupsAround", "(I)I"⟩
abbrev cX10_sumOf : ByteArray := prog_12_method_13_code
def yX10_sumOf : MethodName := ⟨RX10, "sumOf", "(II)I"⟩
abbrev cX10_notBegin : ByteArray := prog_12_method_14_code
def yX10_notBegin : MethodName := ⟨RX10, "notBegin", "(II)I"⟩
abbrev cX10_begins : ByteArray := prog_12_method_15_code
def yX10_begins : MethodName := ⟨RX10, "begins", "(II)I"⟩
abbrev cX10_begin : ByteArray := prog_12_method_16_code
def yX10_begin : MethodName := ⟨RX10, "begin", "(II)I"⟩
abbrev cX10_isFar : ByteArray := prog_12_method_17_code
def yX10_isFar : MethodName := ⟨RX10, "isFar", "(I)Z"⟩
abbrev cX10_notAdd : ByteArray := prog_12_method_18_code
def yX10_notAdd : MethodName := ⟨RX10, "notAdd", "(IIII)I"⟩
abbrev cX10_adds : ByteArray := prog_12_method_19_code
def yX10_adds : MethodName := ⟨RX10, "adds", "(IIIIII)I"⟩
abbrev cX10_addGroup : ByteArray := prog_12_method_20_code
def yX10_addGroup : MethodName := ⟨RX10, "addGroup", "(IIII)I"⟩
abbrev cX10_notBox : ByteArray := prog_12_method_21_code
def yX10_notBox : MethodName := ⟨RX10, "notBox", "(IIIIII)I"⟩
abbrev cX10_addBox : ByteArray := prog_12_method_22_code
def yX10_addBox : MethodName := ⟨RX10, "addBox", "(IIIIII)I"⟩
abbrev cX10_notMove : ByteArray := prog_12_method_23_code
def yX10_notMove : MethodName := ⟨RX10, "notMove", "(IIII)I"⟩
abbrev cX10_moves : ByteArray := prog_12_method_24_code
def yX10_moves : MethodName := ⟨RX10, "moves", "(IIII)I"⟩
abbrev cX10_move : ByteArray := prog_12_method_25_code
def yX10_move : MethodName := ⟨RX10, "move", "(IIII)I"⟩
abbrev cX10_setShade : ByteArray := prog_12_method_26_code
def yX10_setShade : MethodName := ⟨RX10, "setShade", "(II)I"⟩
abbrev cX10_isWithin : ByteArray := prog_12_method_27_code
def yX10_isWithin : MethodName := ⟨RX10, "isWithin", "(II)Z"⟩
abbrev cX10_removes : ByteArray := prog_12_method_28_code
def yX10_removes : MethodName := ⟨RX10, "removes", "(I)I"⟩
abbrev cX10_notRemove : ByteArray := prog_12_method_29_code
def yX10_notRemove : MethodName := ⟨RX10, "notRemove", "(I)I"⟩
abbrev cX10_removeNode : ByteArray := prog_12_method_30_code
def yX10_removeNode : MethodName := ⟨RX10, "removeNode", "(I)I"⟩
abbrev cX10_notScene : ByteArray := prog_12_method_31_code
def yX10_notScene : MethodName := ⟨RX10, "notScene", "(III)I"⟩
abbrev cX10_addsScene : ByteArray := prog_12_method_32_code
def yX10_addsScene : MethodName := ⟨RX10, "addsScene", "(III)I"⟩
abbrev cX10_addScene : ByteArray := prog_12_method_33_code
def yX10_addScene : MethodName := ⟨RX10, "addScene", "(III)I"⟩
abbrev cX10_notSet : ByteArray := prog_12_method_34_code
def yX10_notSet : MethodName := ⟨RX10, "notSet", "(II)I"⟩
abbrev cX10_sets : ByteArray := prog_12_method_35_code
def yX10_sets : MethodName := ⟨RX10, "sets", "(II)I"⟩
abbrev cX10_set : ByteArray := prog_12_method_36_code
def yX10_set : MethodName := ⟨RX10, "set", "(II)I"⟩
abbrev cX10_notTitle : ByteArray := prog_12_method_37_code
def yX10_notTitle : MethodName := ⟨RX10, "notTitle", "(III)I"⟩
abbrev cX10_setsTitle : ByteArray := prog_12_method_38_code
def yX10_setsTitle : MethodName := ⟨RX10, "setsTitle", "(III)I"⟩
abbrev cX10_setTitle : ByteArray := prog_12_method_39_code
def yX10_setTitle : MethodName := ⟨RX10, "setTitle", "(III)I"⟩
abbrev cX10_clearTitle : ByteArray := prog_12_method_40_code
def yX10_clearTitle : MethodName := ⟨RX10, "clearTitle", "()I"⟩
abbrev cX10_sceneNow : ByteArray := prog_12_method_41_code
def yX10_sceneNow : MethodName := ⟨RX10, "sceneNow", "()I"⟩
abbrev cX10_towards : ByteArray := prog_12_method_42_code
def yX10_towards : MethodName := ⟨RX10, "towards", "(III)I"⟩
abbrev cX10_tickOnce : ByteArray := prog_12_method_43_code
def yX10_tickOnce : MethodName := ⟨RX10, "tickOnce", "()V"⟩
abbrev cX10_notTick : ByteArray := prog_12_method_44_code
def yX10_notTick : MethodName := ⟨RX10, "notTick", "(I)I"⟩
abbrev cX10_ticksOn : ByteArray := prog_12_method_45_code
def yX10_ticksOn : MethodName := ⟨RX10, "ticksOn", "(I)I"⟩
abbrev cX10_tick : ByteArray := prog_12_method_46_code
def yX10_tick : MethodName := ⟨RX10, "tick", "(I)I"⟩
abbrev cX10_raw : ByteArray := prog_12_method_47_code
def yX10_raw : MethodName := ⟨RX10, "raw", "(I)I"⟩
abbrev cX10_fits : ByteArray := prog_12_method_48_code
def yX10_fits : MethodName := ⟨RX10, "fits", "(III)Z"⟩
abbrev cX10_percentageBy : ByteArray := prog_12_method_49_code
def yX10_percentageBy : MethodName := ⟨RX10, "percentageBy", "(II)I"⟩
abbrev cX10_places : ByteArray := prog_12_method_50_code
def yX10_places : MethodName := ⟨RX10, "places", "()V"⟩
abbrev cX10_sort : ByteArray := prog_12_method_51_code
def yX10_sort : MethodName := ⟨RX10, "sort", "()V"⟩
abbrev cX10_column : ByteArray := prog_12_method_52_code
def yX10_column : MethodName := ⟨RX10, "column", "(IIZ)I"⟩
abbrev cX10_columnOf : ByteArray := prog_12_method_53_code
def yX10_columnOf : MethodName := ⟨RX10, "columnOf", "(IZ)I"⟩
abbrev cX10_isInRows : ByteArray := prog_12_method_54_code
def yX10_isInRows : MethodName := ⟨RX10, "isInRows", "(I)Z"⟩
abbrev cX10_isCutLeft : ByteArray := prog_12_method_55_code
def yX10_isCutLeft : MethodName := ⟨RX10, "isCutLeft", "(IZI)Z"⟩
abbrev cX10_isCutRight : ByteArray := prog_12_method_56_code
def yX10_isCutRight : MethodName := ⟨RX10, "isCutRight", "(IZI)Z"⟩
abbrev cX10_isCut : ByteArray := prog_12_method_57_code
def yX10_isCut : MethodName := ⟨RX10, "isCut", "(IZI)Z"⟩
abbrev cX10_mask : ByteArray := prog_12_method_58_code
def yX10_mask : MethodName := ⟨RX10, "mask", "(Z)I"⟩
abbrev cX10_isClear : ByteArray := prog_12_method_59_code
def yX10_isClear : MethodName := ⟨RX10, "isClear", "(IIZ)Z"⟩
abbrev cX10_findTitle : ByteArray := prog_12_method_60_code
def yX10_findTitle : MethodName := ⟨RX10, "findTitle", "()V"⟩
abbrev cX10_survey : ByteArray := prog_12_method_61_code
def yX10_survey : MethodName := ⟨RX10, "survey", "()V"⟩
abbrev cX10_inside : ByteArray := prog_12_method_62_code
def yX10_inside : MethodName := ⟨RX10, "inside", "(I)I"⟩
abbrev cX10_boxOf : ByteArray := prog_12_method_63_code
def yX10_boxOf : MethodName := ⟨RX10, "boxOf", "(II)I"⟩
abbrev cX10_nodeOf : ByteArray := prog_12_method_64_code
def yX10_nodeOf : MethodName := ⟨RX10, "nodeOf", "(II)I"⟩
abbrev cX10_node : ByteArray := prog_12_method_65_code
def yX10_node : MethodName := ⟨RX10, "node", "(II)I"⟩
abbrev cX10_painted : ByteArray := prog_12_method_66_code
def yX10_painted : MethodName := ⟨RX10, "painted", "(I)I"⟩
abbrev cX10_sceneOf : ByteArray := prog_12_method_67_code
def yX10_sceneOf : MethodName := ⟨RX10, "sceneOf", "(II)I"⟩
abbrev cX10_scene : ByteArray := prog_12_method_68_code
def yX10_scene : MethodName := ⟨RX10, "scene", "(II)I"⟩
abbrev cX10_titleOf : ByteArray := prog_12_method_69_code
def yX10_titleOf : MethodName := ⟨RX10, "titleOf", "(I)I"⟩
abbrev cX10_title : ByteArray := prog_12_method_70_code
def yX10_title : MethodName := ⟨RX10, "title", "(I)I"⟩
abbrev cX10_wholeOf : ByteArray := prog_12_method_71_code
def yX10_wholeOf : MethodName := ⟨RX10, "wholeOf", "(I)I"⟩
abbrev cX10_whole : ByteArray := prog_12_method_72_code
def yX10_whole : MethodName := ⟨RX10, "whole", "(I)I"⟩
abbrev cX10_top : ByteArray := prog_12_method_73_code
def yX10_top : MethodName := ⟨RX10, "top", "(ZII)I"⟩
abbrev cX10_isTitle : ByteArray := prog_12_method_74_code
def yX10_isTitle : MethodName := ⟨RX10, "isTitle", "(ZII)Z"⟩
abbrev cX10_shadeOf : ByteArray := prog_12_method_75_code
def yX10_shadeOf : MethodName := ⟨RX10, "shadeOf", "(ZII)I"⟩
abbrev cX10_isCell : ByteArray := prog_12_method_76_code
def yX10_isCell : MethodName := ⟨RX10, "isCell", "(II)Z"⟩
abbrev cX10_shade : ByteArray := prog_12_method_77_code
def yX10_shade : MethodName := ⟨RX10, "shade", "(ZII)I"⟩
abbrev cX10_shown : ByteArray := prog_12_method_78_code
def yX10_shown : MethodName := ⟨RX10, "shown", "(ZII)I"⟩
abbrev cX10_ghostOf : ByteArray := prog_12_method_79_code
def yX10_ghostOf : MethodName := ⟨RX10, "ghostOf", "(II)I"⟩
abbrev cX10_ghost : ByteArray := prog_12_method_80_code
def yX10_ghost : MethodName := ⟨RX10, "ghost", "(II)I"⟩
abbrev cX10_ghostsNow : ByteArray := prog_12_method_81_code
def yX10_ghostsNow : MethodName := ⟨RX10, "ghostsNow", "(I)I"⟩
abbrev cX10_ghosts : ByteArray := prog_12_method_82_code
def yX10_ghosts : MethodName := ⟨RX10, "ghosts", "(I)I"⟩
abbrev cX10_meanGhost : ByteArray := prog_12_method_83_code
def yX10_meanGhost : MethodName := ⟨RX10, "meanGhost", "(I)D"⟩
abbrev cX10_isBudget : ByteArray := prog_12_method_84_code
def yX10_isBudget : MethodName := ⟨RX10, "isBudget", "(II)Z"⟩
abbrev cX10_percentageFor : ByteArray := prog_12_method_85_code
def yX10_percentageFor : MethodName := ⟨RX10, "percentageFor", "(II)I"⟩
abbrev cX10_fittingGain : ByteArray := prog_12_method_86_code
def yX10_fittingGain : MethodName := ⟨RX10, "fittingGain", "()I"⟩
abbrev cX10_fullAfter : ByteArray := prog_12_method_87_code
def yX10_fullAfter : MethodName := ⟨RX10, "fullAfter", "(I)I"⟩
abbrev cX10_ghostsWithout : ByteArray := prog_12_method_88_code
def yX10_ghostsWithout : MethodName := ⟨RX10, "ghostsWithout", "(II)I"⟩
abbrev cX10_type : ByteArray := prog_12_method_89_code
def yX10_type : MethodName := ⟨RX10, "type", "(I)I"⟩
abbrev cX10_clearCommands : ByteArray := prog_12_method_90_code
def yX10_clearCommands : MethodName := ⟨RX10, "clearCommands", "()I"⟩
abbrev cX10_here : ByteArray := prog_12_method_91_code
def yX10_here : MethodName := ⟨RX10, "here", "()I"⟩
abbrev cX10_skips : ByteArray := prog_12_method_92_code
def yX10_skips : MethodName := ⟨RX10, "skips", "()Z"⟩
abbrev cX10_commandOf : ByteArray := prog_12_method_93_code
def yX10_commandOf : MethodName := ⟨RX10, "commandOf", "(J)I"⟩
abbrev cX10_readWord : ByteArray := prog_12_method_94_code
def yX10_readWord : MethodName := ⟨RX10, "readWord", "()Z"⟩
abbrev cX10_readNumber : ByteArray := prog_12_method_95_code
def yX10_readNumber : MethodName := ⟨RX10, "readNumber", "(I)Z"⟩
abbrev cX10_manyFor : ByteArray := prog_12_method_96_code
def yX10_manyFor : MethodName := ⟨RX10, "manyFor", "()I"⟩
abbrev cX10_readCommand : ByteArray := prog_12_method_97_code
def yX10_readCommand : MethodName := ⟨RX10, "readCommand", "()Z"⟩
abbrev cX10_isGood : ByteArray := prog_12_method_98_code
def yX10_isGood : MethodName := ⟨RX10, "isGood", "()Z"⟩
abbrev cX10_whyNot : ByteArray := prog_12_method_99_code
def yX10_whyNot : MethodName := ⟨RX10, "whyNot", "()I"⟩
abbrev cX10_carryOut : ByteArray := prog_12_method_100_code
def yX10_carryOut : MethodName := ⟨RX10, "carryOut", "()I"⟩
abbrev cX10_runCommands : ByteArray := prog_12_method_101_code
def yX10_runCommands : MethodName := ⟨RX10, "runCommands", "()I"⟩
abbrev cX10_undo : ByteArray := prog_12_method_102_code
def yX10_undo : MethodName := ⟨RX10, "undo", "()I"⟩
abbrev cX10_mix : ByteArray := prog_12_method_103_code
def yX10_mix : MethodName := ⟨RX10, "mix", "(J)V"⟩
abbrev cX10_mixThings : ByteArray := prog_12_method_104_code
def yX10_mixThings : MethodName := ⟨RX10, "mixThings", "()V"⟩
abbrev cX10_digest : ByteArray := prog_12_method_105_code
def yX10_digest : MethodName := ⟨RX10, "digest", "()J"⟩
def RJx29ce0 : String := "java/lang/Enum"
def TJx29ce0 : u_T := fun k => match k with
  | _ => ("", "", "", false)
def tyJx29ce0 : Nat → FieldType := fun k => match k with
  | _ => .int
theorem nmJx29ce0 : ∀ a, a < 0 → ∀ b, b < 0 → a ≠ b → (TJx29ce0 a).2.1 ≠ (TJx29ce0 b).2.1 := by decide +kernel
theorem tyJx29ce0_ok : ∀ k, k < 0 → parseFieldDescriptor (TJx29ce0 k).2.2.1 = some (tyJx29ce0 k) := by decide +kernel
abbrev cJx29ce0_ordinal_8abf5 : ByteArray := prog_13_method_2_code
def yJx29ce0_ordinal_8abf5 : MethodName := ⟨RJx29ce0, "ordinal", "()I"⟩
def RJ9 : String := "java/lang/Math"
def TJ9 : u_T := fun k => match k with
  | _ => ("", "", "", false)
def tyJ9 : Nat → FieldType := fun k => match k with
  | _ => .int
theorem nmJ9 : ∀ a, a < 0 → ∀ b, b < 0 → a ≠ b → (TJ9 a).2.1 ≠ (TJ9 b).2.1 := by decide +kernel
theorem tyJ9_ok : ∀ k, k < 0 → parseFieldDescriptor (TJ9 k).2.2.1 = some (tyJ9 k) := by decide +kernel
abbrev cJ9_floorDiv_7cf53 : ByteArray := prog_18_method_47_code
def yJ9_floorDiv_7cf53 : MethodName := ⟨RJ9, "floorDiv", "(II)I"⟩
abbrev cJ9_abs_0f7a4 : ByteArray := prog_18_method_59_code
def yJ9_abs_0f7a4 : MethodName := ⟨RJ9, "abs", "(I)I"⟩
abbrev cJ9_max_7cf53 : ByteArray := prog_18_method_65_code
def yJ9_max_7cf53 : MethodName := ⟨RJ9, "max", "(II)I"⟩
abbrev cJ9_min_7cf53 : ByteArray := prog_18_method_69_code
def yJ9_min_7cf53 : MethodName := ⟨RJ9, "min", "(II)I"⟩
def RJ0 : String := "java/lang/String"
def TJ0 : u_T := fun k => match k with
  | _ => ("", "", "", false)
def tyJ0 : Nat → FieldType := fun k => match k with
  | _ => .int
theorem nmJ0 : ∀ a, a < 0 → ∀ b, b < 0 → a ≠ b → (TJ0 a).2.1 ≠ (TJ0 b).2.1 := by decide +kernel
theorem tyJ0_ok : ∀ k, k < 0 → parseFieldDescriptor (TJ0 k).2.2.1 = some (tyJ0 k) := by decide +kernel
abbrev cJ0_length_8abf5 : ByteArray := prog_20_method_54_code
def yJ0_length_8abf5 : MethodName := ⟨RJ0, "length", "()I"⟩
abbrev cJ0_charAt_5068e : ByteArray := prog_20_method_56_code
def yJ0_charAt_5068e : MethodName := ⟨RJ0, "charAt", "(I)C"⟩
abbrev cJ0_coder_7d493 : ByteArray := prog_20_method_152_code
def yJ0_coder_7d493 : MethodName := ⟨RJ0, "coder", "()B"⟩
abbrev cJ0_isLatin1_aae02 : ByteArray := prog_20_method_154_code
def yJ0_isLatin1_aae02 : MethodName := ⟨RJ0, "isLatin1", "()Z"⟩
abbrev cJ0_checkIndex_df160 : ByteArray := prog_20_method_155_code
def yJ0_checkIndex_df160 : MethodName := ⟨RJ0, "checkIndex", "(II)V"⟩
def RJ1 : String := "java/lang/StringLatin1"
def TJ1 : u_T := fun k => match k with
  | _ => ("", "", "", false)
def tyJ1 : Nat → FieldType := fun k => match k with
  | _ => .int
theorem nmJ1 : ∀ a, a < 0 → ∀ b, b < 0 → a ≠ b → (TJ1 a).2.1 ≠ (TJ1 b).2.1 := by decide +kernel
theorem tyJ1_ok : ∀ k, k < 0 → parseFieldDescriptor (TJ1 k).2.2.1 = some (tyJ1 k) := by decide +kernel
abbrev cJ1_charAt_3b067 : ByteArray := prog_21_method_2_code
def yJ1_charAt_3b067 : MethodName := ⟨RJ1, "charAt", "([BI)C"⟩
def RJ2 : String := "java/lang/StringUTF16"
def TJ2 : u_T := fun k => match k with
  | _ => ("", "", "", false)
def tyJ2 : Nat → FieldType := fun k => match k with
  | _ => .int
theorem nmJ2 : ∀ a, a < 0 → ∀ b, b < 0 → a ≠ b → (TJ2 a).2.1 ≠ (TJ2 b).2.1 := by decide +kernel
theorem tyJ2_ok : ∀ k, k < 0 → parseFieldDescriptor (TJ2 k).2.2.1 = some (tyJ2 k) := by decide +kernel
abbrev cJ2_getChar_3b067 : ByteArray := prog_22_method_5_code
def yJ2_getChar_3b067 : MethodName := ⟨RJ2, "getChar", "([BI)C"⟩
abbrev cJ2_length_9d52b : ByteArray := prog_22_method_6_code
def yJ2_length_9d52b : MethodName := ⟨RJ2, "length", "([B)I"⟩
abbrev cJ2_charAt_3b067 : ByteArray := prog_22_method_83_code
def yJ2_charAt_3b067 : MethodName := ⟨RJ2, "charAt", "([BI)C"⟩
abbrev cJ2_checkIndex_2214a : ByteArray := prog_22_method_91_code
def yJ2_checkIndex_2214a : MethodName := ⟨RJ2, "checkIndex", "(I[B)V"⟩
def RJ10 : String := "java/lang/System"
def TJ10 : u_T := fun k => match k with
  | _ => ("", "", "", false)
def tyJ10 : Nat → FieldType := fun k => match k with
  | _ => .int
theorem nmJ10 : ∀ a, a < 0 → ∀ b, b < 0 → a ≠ b → (TJ10 a).2.1 ≠ (TJ10 b).2.1 := by decide +kernel
theorem tyJ10_ok : ∀ k, k < 0 → parseFieldDescriptor (TJ10 k).2.2.1 = some (tyJ10 k) := by decide +kernel
def RJ3 : String := "jdk/internal/util/Preconditions"
def TJ3 : u_T := fun k => match k with
  | _ => ("", "", "", false)
def tyJ3 : Nat → FieldType := fun k => match k with
  | _ => .int
theorem nmJ3 : ∀ a, a < 0 → ∀ b, b < 0 → a ≠ b → (TJ3 a).2.1 ≠ (TJ3 b).2.1 := by decide +kernel
theorem tyJ3_ok : ∀ k, k < 0 → parseFieldDescriptor (TJ3 k).2.2.1 = some (tyJ3 k) := by decide +kernel
abbrev cJ3_checkIndex_8e157 : ByteArray := prog_25_method_11_code
def yJ3_checkIndex_8e157 : MethodName := ⟨RJ3, "checkIndex", "(IILjava/util/function/BiFunction;)I"⟩
def RL : String := "EyeStageLaw"
abbrev cL_begin : ByteArray := method_3_code
def yL_begin : MethodName := ⟨RL, "begin", "(LEyeStage;II[J)I"⟩
abbrev cL_addGroup : ByteArray := method_4_code
def yL_addGroup : MethodName := ⟨RL, "addGroup", "(LEyeStage;IIII[J)I"⟩
abbrev cL_addBox : ByteArray := method_5_code
def yL_addBox : MethodName := ⟨RL, "addBox", "(LEyeStage;IIIIII[J)I"⟩
abbrev cL_move : ByteArray := method_6_code
def yL_move : MethodName := ⟨RL, "move", "(LEyeStage;IIII[J)I"⟩
abbrev cL_setShade : ByteArray := method_7_code
def yL_setShade : MethodName := ⟨RL, "setShade", "(LEyeStage;II[J)I"⟩
abbrev cL_removeNode : ByteArray := method_8_code
def yL_removeNode : MethodName := ⟨RL, "removeNode", "(LEyeStage;I[J)I"⟩
abbrev cL_addScene : ByteArray := method_9_code
def yL_addScene : MethodName := ⟨RL, "addScene", "(LEyeStage;III[J)I"⟩
abbrev cL_set : ByteArray := method_10_code
def yL_set : MethodName := ⟨RL, "set", "(LEyeStage;II[J)I"⟩
abbrev cL_setTitle : ByteArray := method_11_code
def yL_setTitle : MethodName := ⟨RL, "setTitle", "(LEyeStage;III[J)I"⟩
abbrev cL_tick : ByteArray := method_12_code
def yL_tick : MethodName := ⟨RL, "tick", "(LEyeStage;I[J)I"⟩
abbrev cL_node : ByteArray := method_13_code
def yL_node : MethodName := ⟨RL, "node", "(LEyeStage;II[J)I"⟩
abbrev cL_painted : ByteArray := method_14_code
def yL_painted : MethodName := ⟨RL, "painted", "(LEyeStage;I[J)I"⟩
abbrev cL_scene : ByteArray := method_15_code
def yL_scene : MethodName := ⟨RL, "scene", "(LEyeStage;II[J)I"⟩
abbrev cL_title : ByteArray := method_16_code
def yL_title : MethodName := ⟨RL, "title", "(LEyeStage;I[J)I"⟩
abbrev cL_whole : ByteArray := method_17_code
def yL_whole : MethodName := ⟨RL, "whole", "(LEyeStage;I[J)I"⟩
abbrev cL_shade : ByteArray := method_18_code
def yL_shade : MethodName := ⟨RL, "shade", "(LEyeStage;ZII[J)I"⟩
abbrev cL_shown : ByteArray := method_19_code
def yL_shown : MethodName := ⟨RL, "shown", "(LEyeStage;ZII[J)I"⟩
abbrev cL_ghost : ByteArray := method_20_code
def yL_ghost : MethodName := ⟨RL, "ghost", "(LEyeStage;II[J)I"⟩
abbrev cL_ghosts : ByteArray := method_21_code
def yL_ghosts : MethodName := ⟨RL, "ghosts", "(LEyeStage;I[J)I"⟩
abbrev cL_meanGhost : ByteArray := method_22_code
def yL_meanGhost : MethodName := ⟨RL, "meanGhost", "(LEyeStage;I[D)I"⟩
abbrev cL_percentageFor : ByteArray := method_23_code
def yL_percentageFor : MethodName := ⟨RL, "percentageFor", "(LEyeStage;II[J)I"⟩
abbrev cL_fullAfter : ByteArray := method_24_code
def yL_fullAfter : MethodName := ⟨RL, "fullAfter", "(LEyeStage;I[J)I"⟩
abbrev cL_ghostsWithout : ByteArray := method_25_code
def yL_ghostsWithout : MethodName := ⟨RL, "ghostsWithout", "(LEyeStage;II[J)I"⟩
abbrev cL_type : ByteArray := method_26_code
def yL_type : MethodName := ⟨RL, "type", "(LEyeStage;I[J)I"⟩
abbrev cL_undo : ByteArray := method_27_code
def yL_undo : MethodName := ⟨RL, "undo", "(LEyeStage;[J)I"⟩
abbrev cL_law : ByteArray := code
def yL_law : MethodName := ⟨RL, "law", "([I)Z"⟩
abbrev vwCl : List vw_C := [(RX1, TX1, 2), (RX2, TX2, 11), (RX3, TX3, 7), (RX4, TX4, 5), (RX5, TX5, 8), (RX6, TX6, 10), (RX7, TX7, 10), (RX9, TX9, 7), (RX10, TX10, 24)]
def tb : List Cond := lw_tbl.filter goodWord
theorem inT (n : Nat) {w : Cond} (h : lw_tbl[n]? = some w ∧ goodWord w = true) : w ∈ tb := List.mem_filter.mpr ⟨List.mem_of_getElem? h.1, h.2⟩
theorem tb_good {w : Cond} (h : w ∈ tb) : w ∈ lw_tbl ∧ ((w.onTables && w.keeps) = true ∨ ∃ ty, w = .arrayClass ty) := ⟨(List.mem_filter.mp h).1, good_of_word (List.mem_filter.mp h).2⟩
theorem goodIn_tb {ws : List Cond} (h : ∀ w ∈ ws, w ∈ tb) : GoodIn tb ws := fun w hw => ⟨h w hw, (tb_good (h w hw)).2⟩
theorem in_RL : Cond.initialized RL ∈ tb := inT 93 (by decide +kernel)
theorem in_RX9 : Cond.initialized RX9 ∈ tb := inT 94 (by decide +kernel)
theorem in_RX7 : Cond.initialized RX7 ∈ tb := inT 95 (by decide +kernel)
theorem in_RX2 : Cond.initialized RX2 ∈ tb := inT 96 (by decide +kernel)
theorem in_RX5 : Cond.initialized RX5 ∈ tb := inT 97 (by decide +kernel)
theorem in_RX6 : Cond.initialized RX6 ∈ tb := inT 98 (by decide +kernel)
theorem in_RX3 : Cond.initialized RX3 ∈ tb := inT 99 (by decide +kernel)
theorem in_RX1 : Cond.initialized RX1 ∈ tb := inT 100 (by decide +kernel)
theorem in_RX4 : Cond.initialized RX4 ∈ tb := inT 101 (by decide +kernel)
theorem in_RX10 : Cond.initialized RX10 ∈ tb := inT 102 (by decide +kernel)
theorem in_RJ9 : Cond.initialized RJ9 ∈ tb := inT 109 (by decide +kernel)
theorem in_RJ10 : Cond.initialized RJ10 ∈ tb := inT 110 (by decide +kernel)
theorem in_RJ0 : Cond.initialized RJ0 ∈ tb := inT 111 (by decide +kernel)
theorem in_RJ1 : Cond.initialized RJ1 ∈ tb := inT 112 (by decide +kernel)
theorem in_RJ3 : Cond.initialized RJ3 ∈ tb := inT 113 (by decide +kernel)
theorem in_RJ2 : Cond.initialized RJ2 ∈ tb := inT 114 (by decide +kernel)
theorem in_RX0 : Cond.initialized RX0 ∈ tb := inT 115 (by decide +kernel)
theorem cl_RL_8 : Cond.classLink RL 8 RX9 ∈ tb := inT 116 (by decide +kernel)
theorem it_RX9 : Cond.instantiable RX9 7 ∈ tb := inT 117 (by decide +kernel)
theorem ml_RL_98 : Cond.methodLink RL 98 yX9_init ∈ tb := inT 118 (by decide +kernel)
theorem im_X9_init : Cond.instanceMethod yX9_init ∈ tb := inT 119 (by decide +kernel)
theorem ml_RX9_1 : Cond.methodLink RX9 1 objectInit ∈ tb := inT 121 (by decide +kernel)
theorem im_obj : Cond.instanceMethod objectInit ∈ tb := inT 122 (by decide +kernel)
theorem cl_RX9_7 : Cond.classLink RX9 7 RX7 ∈ tb := inT 124 (by decide +kernel)
theorem it_RX7 : Cond.instantiable RX7 10 ∈ tb := inT 125 (by decide +kernel)
theorem im_X7_init : Cond.instanceMethod yX7_init ∈ tb := inT 127 (by decide +kernel)
theorem ml_RX7_3 : Cond.methodLink RX7 3 objectInit ∈ tb := inT 129 (by decide +kernel)
theorem cl_RX7_9 : Cond.classLink RX7 9 RX2 ∈ tb := inT 130 (by decide +kernel)
theorem it_RX2 : Cond.instantiable RX2 11 ∈ tb := inT 131 (by decide +kernel)
theorem im_X2_init : Cond.instanceMethod yX2_init ∈ tb := inT 133 (by decide +kernel)
theorem ml_RX2_3 : Cond.methodLink RX2 3 objectInit ∈ tb := inT 135 (by decide +kernel)
theorem cl_RX2_9 : Cond.classLink RX2 9 RX5 ∈ tb := inT 136 (by decide +kernel)
theorem it_RX5 : Cond.instantiable RX5 8 ∈ tb := inT 137 (by decide +kernel)
theorem ml_RX2_11 : Cond.methodLink RX2 11 yX5_init ∈ tb := inT 138 (by decide +kernel)
theorem im_X5_init : Cond.instanceMethod yX5_init ∈ tb := inT 139 (by decide +kernel)
theorem ml_RX5_3 : Cond.methodLink RX5 3 objectInit ∈ tb := inT 141 (by decide +kernel)
theorem cl_RX5_9 : Cond.classLink RX5 9 RX6 ∈ tb := inT 142 (by decide +kernel)
theorem it_RX6 : Cond.instantiable RX6 10 ∈ tb := inT 143 (by decide +kernel)
theorem im_X6_init : Cond.instanceMethod yX6_init ∈ tb := inT 145 (by decide +kernel)
theorem ml_RX6_3 : Cond.methodLink RX6 3 objectInit ∈ tb := inT 147 (by decide +kernel)
theorem fl_RX6_39 : Cond.fieldLink RX6 39 RX6 "count" "I" ∈ tb := inT 148 (by decide +kernel)
theorem fl_RX2_71 : Cond.fieldLink RX2 71 RX6 "count" "I" ∈ tb := inT 149 (by decide +kernel)
theorem fl_RX5_43 : Cond.fieldLink RX5 43 RX6 "count" "I" ∈ tb := inT 150 (by decide +kernel)
theorem fl_RX7_61 : Cond.fieldLink RX7 61 RX6 "count" "I" ∈ tb := inT 151 (by decide +kernel)
theorem fl_RX9_243 : Cond.fieldLink RX9 243 RX6 "count" "I" ∈ tb := inT 152 (by decide +kernel)
theorem fl_RX6_9 : Cond.fieldLink RX6 9 RX6 "parent" "[I" ∈ tb := inT 153 (by decide +kernel)
theorem fl_RX2_99 : Cond.fieldLink RX2 99 RX6 "parent" "[I" ∈ tb := inT 154 (by decide +kernel)
theorem fl_RX6_15 : Cond.fieldLink RX6 15 RX6 "around" "[I" ∈ tb := inT 155 (by decide +kernel)
theorem fl_RX2_145 : Cond.fieldLink RX2 145 RX6 "around" "[I" ∈ tb := inT 156 (by decide +kernel)
theorem fl_RX6_18 : Cond.fieldLink RX6 18 RX6 "dx" "[I" ∈ tb := inT 157 (by decide +kernel)
theorem fl_RX2_102 : Cond.fieldLink RX2 102 RX6 "dx" "[I" ∈ tb := inT 158 (by decide +kernel)
theorem fl_RX6_21 : Cond.fieldLink RX6 21 RX6 "dy" "[I" ∈ tb := inT 159 (by decide +kernel)
theorem fl_RX2_105 : Cond.fieldLink RX2 105 RX6 "dy" "[I" ∈ tb := inT 160 (by decide +kernel)
theorem fl_RX6_24 : Cond.fieldLink RX6 24 RX6 "dz" "[I" ∈ tb := inT 161 (by decide +kernel)
theorem fl_RX2_108 : Cond.fieldLink RX2 108 RX6 "dz" "[I" ∈ tb := inT 162 (by decide +kernel)
theorem fl_RX6_27 : Cond.fieldLink RX6 27 RX6 "width" "[I" ∈ tb := inT 163 (by decide +kernel)
theorem fl_RX7_83 : Cond.fieldLink RX7 83 RX6 "width" "[I" ∈ tb := inT 164 (by decide +kernel)
theorem fl_RX2_142 : Cond.fieldLink RX2 142 RX6 "width" "[I" ∈ tb := inT 165 (by decide +kernel)
theorem fl_RX6_30 : Cond.fieldLink RX6 30 RX6 "height" "[I" ∈ tb := inT 166 (by decide +kernel)
theorem fl_RX2_126 : Cond.fieldLink RX2 126 RX6 "height" "[I" ∈ tb := inT 167 (by decide +kernel)
theorem fl_RX6_33 : Cond.fieldLink RX6 33 RX6 "shades" "[I" ∈ tb := inT 168 (by decide +kernel)
theorem fl_RX7_168 : Cond.fieldLink RX7 168 RX6 "shades" "[I" ∈ tb := inT 169 (by decide +kernel)
theorem fl_RX2_151 : Cond.fieldLink RX2 151 RX6 "shades" "[I" ∈ tb := inT 170 (by decide +kernel)
theorem fl_RX6_36 : Cond.fieldLink RX6 36 RX6 "renumbered" "[I" ∈ tb := inT 171 (by decide +kernel)
theorem cl_RX5_18 : Cond.classLink RX5 18 RX3 ∈ tb := inT 194 (by decide +kernel)
theorem it_RX3 : Cond.instantiable RX3 7 ∈ tb := inT 195 (by decide +kernel)
theorem im_X3_init : Cond.instanceMethod yX3_init ∈ tb := inT 197 (by decide +kernel)
theorem ml_RX3_3 : Cond.methodLink RX3 3 objectInit ∈ tb := inT 199 (by decide +kernel)
theorem fl_RX3_28 : Cond.fieldLink RX3 28 RX3 "count" "I" ∈ tb := inT 200 (by decide +kernel)
theorem fl_RX7_146 : Cond.fieldLink RX7 146 RX3 "count" "I" ∈ tb := inT 201 (by decide +kernel)
theorem fl_RX9_244 : Cond.fieldLink RX9 244 RX3 "count" "I" ∈ tb := inT 202 (by decide +kernel)
theorem fl_RX5_40 : Cond.fieldLink RX5 40 RX3 "time" "I" ∈ tb := inT 203 (by decide +kernel)
theorem fl_RX3_39 : Cond.fieldLink RX3 39 RX3 "time" "I" ∈ tb := inT 204 (by decide +kernel)
theorem fl_RX7_147 : Cond.fieldLink RX7 147 RX3 "time" "I" ∈ tb := inT 205 (by decide +kernel)
theorem fl_RX3_9 : Cond.fieldLink RX3 9 RX3 "low" "I" ∈ tb := inT 206 (by decide +kernel)
theorem fl_RX2_52 : Cond.fieldLink RX2 52 RX3 "low" "I" ∈ tb := inT 207 (by decide +kernel)
theorem fl_RX7_153 : Cond.fieldLink RX7 153 RX3 "low" "I" ∈ tb := inT 208 (by decide +kernel)
theorem fl_RX9_202 : Cond.fieldLink RX9 202 RX3 "low" "I" ∈ tb := inT 209 (by decide +kernel)
theorem fl_RX3_15 : Cond.fieldLink RX3 15 RX3 "high" "I" ∈ tb := inT 210 (by decide +kernel)
theorem fl_RX2_58 : Cond.fieldLink RX2 58 RX3 "high" "I" ∈ tb := inT 211 (by decide +kernel)
theorem fl_RX7_108 : Cond.fieldLink RX7 108 RX3 "high" "I" ∈ tb := inT 212 (by decide +kernel)
theorem fl_RX9_205 : Cond.fieldLink RX9 205 RX3 "high" "I" ∈ tb := inT 213 (by decide +kernel)
theorem fl_RX3_18 : Cond.fieldLink RX3 18 RX3 "least" "[I" ∈ tb := inT 214 (by decide +kernel)
theorem fl_RX3_22 : Cond.fieldLink RX3 22 RX3 "greatest" "[I" ∈ tb := inT 215 (by decide +kernel)
theorem fl_RX3_25 : Cond.fieldLink RX3 25 RX3 "ticks" "[I" ∈ tb := inT 216 (by decide +kernel)
theorem fl_RX5_12 : Cond.fieldLink RX5 12 RX5 "tree" "LEyeStage$Tree;" ∈ tb := inT 232 (by decide +kernel)
theorem fl_RX2_18 : Cond.fieldLink RX2 18 RX5 "tree" "LEyeStage$Tree;" ∈ tb := inT 233 (by decide +kernel)
theorem fl_RX7_23 : Cond.fieldLink RX7 23 RX5 "tree" "LEyeStage$Tree;" ∈ tb := inT 234 (by decide +kernel)
theorem fl_RX9_61 : Cond.fieldLink RX9 61 RX5 "tree" "LEyeStage$Tree;" ∈ tb := inT 235 (by decide +kernel)
theorem fl_RX4_102 : Cond.fieldLink RX4 102 RX5 "tree" "LEyeStage$Tree;" ∈ tb := inT 236 (by decide +kernel)
theorem fl_RX5_21 : Cond.fieldLink RX5 21 RX5 "schedule" "LEyeStage$Schedule;" ∈ tb := inT 237 (by decide +kernel)
theorem fl_RX2_48 : Cond.fieldLink RX2 48 RX5 "schedule" "LEyeStage$Schedule;" ∈ tb := inT 238 (by decide +kernel)
theorem fl_RX7_104 : Cond.fieldLink RX7 104 RX5 "schedule" "LEyeStage$Schedule;" ∈ tb := inT 239 (by decide +kernel)
theorem fl_RX9_100 : Cond.fieldLink RX9 100 RX5 "schedule" "LEyeStage$Schedule;" ∈ tb := inT 240 (by decide +kernel)
theorem fl_RX4_119 : Cond.fieldLink RX4 119 RX5 "schedule" "LEyeStage$Schedule;" ∈ tb := inT 241 (by decide +kernel)
theorem fl_RX5_25 : Cond.fieldLink RX5 25 RX5 "settings" "[I" ∈ tb := inT 242 (by decide +kernel)
theorem fl_RX2_80 : Cond.fieldLink RX2 80 RX5 "settings" "[I" ∈ tb := inT 243 (by decide +kernel)
theorem fl_RX7_159 : Cond.fieldLink RX7 159 RX5 "settings" "[I" ∈ tb := inT 244 (by decide +kernel)
theorem fl_RX9_198 : Cond.fieldLink RX9 198 RX5 "settings" "[I" ∈ tb := inT 245 (by decide +kernel)
theorem fl_RX5_29 : Cond.fieldLink RX5 29 RX5 "width" "I" ∈ tb := inT 246 (by decide +kernel)
theorem fl_RX7_90 : Cond.fieldLink RX7 90 RX5 "width" "I" ∈ tb := inT 247 (by decide +kernel)
theorem fl_RX9_180 : Cond.fieldLink RX9 180 RX5 "width" "I" ∈ tb := inT 248 (by decide +kernel)
theorem fl_RX5_33 : Cond.fieldLink RX5 33 RX5 "height" "I" ∈ tb := inT 249 (by decide +kernel)
theorem fl_RX2_129 : Cond.fieldLink RX2 129 RX5 "height" "I" ∈ tb := inT 250 (by decide +kernel)
theorem fl_RX7_139 : Cond.fieldLink RX7 139 RX5 "height" "I" ∈ tb := inT 251 (by decide +kernel)
theorem fl_RX7_116 : Cond.fieldLink RX7 116 RX5 "titleX" "I" ∈ tb := inT 252 (by decide +kernel)
theorem fl_RX5_65 : Cond.fieldLink RX5 65 RX5 "titleX" "I" ∈ tb := inT 253 (by decide +kernel)
theorem fl_RX7_101 : Cond.fieldLink RX7 101 RX5 "titleY" "I" ∈ tb := inT 254 (by decide +kernel)
theorem fl_RX5_68 : Cond.fieldLink RX5 68 RX5 "titleY" "I" ∈ tb := inT 255 (by decide +kernel)
theorem fl_RX7_98 : Cond.fieldLink RX7 98 RX5 "titleLength" "I" ∈ tb := inT 256 (by decide +kernel)
theorem fl_RX5_62 : Cond.fieldLink RX5 62 RX5 "titleLength" "I" ∈ tb := inT 257 (by decide +kernel)
theorem fl_RX2_12 : Cond.fieldLink RX2 12 RX2 "stage" "LEyeStage$Stage;" ∈ tb := inT 275 (by decide +kernel)
theorem fl_RX7_18 : Cond.fieldLink RX7 18 RX2 "stage" "LEyeStage$Stage;" ∈ tb := inT 276 (by decide +kernel)
theorem fl_RX2_22 : Cond.fieldLink RX2 22 RX2 "tree" "LEyeStage$Tree;" ∈ tb := inT 277 (by decide +kernel)
theorem fl_RX2_23 : Cond.fieldLink RX2 23 RX2 "x" "[I" ∈ tb := inT 278 (by decide +kernel)
theorem fl_RX2_27 : Cond.fieldLink RX2 27 RX2 "y" "[I" ∈ tb := inT 279 (by decide +kernel)
theorem fl_RX2_30 : Cond.fieldLink RX2 30 RX2 "z" "[I" ∈ tb := inT 280 (by decide +kernel)
theorem fl_RX2_33 : Cond.fieldLink RX2 33 RX2 "shift" "[I" ∈ tb := inT 281 (by decide +kernel)
theorem fl_RX7_66 : Cond.fieldLink RX7 66 RX2 "shift" "[I" ∈ tb := inT 282 (by decide +kernel)
theorem fl_RX2_36 : Cond.fieldLink RX2 36 RX2 "leftColumn" "[I" ∈ tb := inT 283 (by decide +kernel)
theorem fl_RX7_77 : Cond.fieldLink RX7 77 RX2 "leftColumn" "[I" ∈ tb := inT 284 (by decide +kernel)
theorem fl_RX2_39 : Cond.fieldLink RX2 39 RX2 "rightColumn" "[I" ∈ tb := inT 285 (by decide +kernel)
theorem fl_RX7_80 : Cond.fieldLink RX7 80 RX2 "rightColumn" "[I" ∈ tb := inT 286 (by decide +kernel)
theorem fl_RX2_42 : Cond.fieldLink RX2 42 RX2 "order" "[I" ∈ tb := inT 287 (by decide +kernel)
theorem fl_RX2_68 : Cond.fieldLink RX2 68 RX2 "boxes" "I" ∈ tb := inT 288 (by decide +kernel)
theorem fl_RX7_203 : Cond.fieldLink RX7 203 RX2 "boxes" "I" ∈ tb := inT 289 (by decide +kernel)
theorem fl_RX2_65 : Cond.fieldLink RX2 65 RX2 "percentage" "I" ∈ tb := inT 290 (by decide +kernel)
theorem fl_RX7_156 : Cond.fieldLink RX7 156 RX2 "percentage" "I" ∈ tb := inT 291 (by decide +kernel)
theorem fl_RX7_12 : Cond.fieldLink RX7 12 RX7 "placing" "LEyeStage$Placing;" ∈ tb := inT 315 (by decide +kernel)
theorem fl_RX9_138 : Cond.fieldLink RX9 138 RX7 "placing" "LEyeStage$Placing;" ∈ tb := inT 316 (by decide +kernel)
theorem fl_RX9_16 : Cond.fieldLink RX9 16 RX7 "stage" "LEyeStage$Stage;" ∈ tb := inT 317 (by decide +kernel)
theorem fl_RX7_22 : Cond.fieldLink RX7 22 RX7 "stage" "LEyeStage$Stage;" ∈ tb := inT 318 (by decide +kernel)
theorem fl_RX7_29 : Cond.fieldLink RX7 29 RX7 "tree" "LEyeStage$Tree;" ∈ tb := inT 319 (by decide +kernel)
theorem fl_RX7_48 : Cond.fieldLink RX7 48 RX7 "leftEdge" "I" ∈ tb := inT 320 (by decide +kernel)
theorem fl_RX7_51 : Cond.fieldLink RX7 51 RX7 "rightEdge" "I" ∈ tb := inT 321 (by decide +kernel)
theorem fl_RX7_92 : Cond.fieldLink RX7 92 RX7 "titleRow" "I" ∈ tb := inT 322 (by decide +kernel)
theorem fl_RX7_95 : Cond.fieldLink RX7 95 RX7 "titleShift" "I" ∈ tb := inT 323 (by decide +kernel)
theorem fl_RX7_30 : Cond.fieldLink RX7 30 RX7 "leftCells" "[I" ∈ tb := inT 324 (by decide +kernel)
theorem fl_RX7_34 : Cond.fieldLink RX7 34 RX7 "rightCells" "[I" ∈ tb := inT 325 (by decide +kernel)
theorem fl_RX7_37 : Cond.fieldLink RX7 37 RX7 "heldRow" "I" ∈ tb := inT 326 (by decide +kernel)
theorem cl_RX9_27 : Cond.classLink RX9 27 RX1 ∈ tb := inT 348 (by decide +kernel)
theorem it_RX1 : Cond.instantiable RX1 2 ∈ tb := inT 349 (by decide +kernel)
theorem im_X1_init : Cond.instanceMethod yX1_init ∈ tb := inT 351 (by decide +kernel)
theorem ml_RX1_3 : Cond.methodLink RX1 3 objectInit ∈ tb := inT 353 (by decide +kernel)
theorem cl_RX1_9 : Cond.classLink RX1 9 RX5 ∈ tb := inT 354 (by decide +kernel)
theorem fl_RX1_17 : Cond.fieldLink RX1 17 RX1 "count" "I" ∈ tb := inT 356 (by decide +kernel)
theorem fl_RX9_233 : Cond.fieldLink RX9 233 RX1 "count" "I" ∈ tb := inT 357 (by decide +kernel)
theorem fl_RX1_11 : Cond.fieldLink RX1 11 RX1 "saved" "[LEyeStage$Stage;" ∈ tb := inT 358 (by decide +kernel)
theorem cl_RX9_34 : Cond.classLink RX9 34 RX4 ∈ tb := inT 364 (by decide +kernel)
theorem it_RX4 : Cond.instantiable RX4 5 ∈ tb := inT 365 (by decide +kernel)
theorem im_X4_init : Cond.instanceMethod yX4_init ∈ tb := inT 367 (by decide +kernel)
theorem ml_RX4_3 : Cond.methodLink RX4 3 objectInit ∈ tb := inT 369 (by decide +kernel)
theorem fl_RX4_18 : Cond.fieldLink RX4 18 RX4 "length" "I" ∈ tb := inT 370 (by decide +kernel)
theorem fl_RX9_221 : Cond.fieldLink RX9 221 RX4 "length" "I" ∈ tb := inT 371 (by decide +kernel)
theorem fl_RX4_9 : Cond.fieldLink RX4 9 RX4 "bytes" "[I" ∈ tb := inT 372 (by decide +kernel)
theorem fl_RX4_15 : Cond.fieldLink RX4 15 RX4 "numbers" "[I" ∈ tb := inT 373 (by decide +kernel)
theorem fl_RX4_22 : Cond.fieldLink RX4 22 RX4 "at" "I" ∈ tb := inT 374 (by decide +kernel)
theorem fl_RX4_44 : Cond.fieldLink RX4 44 RX4 "word" "LEyeStage$Word;" ∈ tb := inT 375 (by decide +kernel)
theorem fl_RX9_10 : Cond.fieldLink RX9 10 RX9 "view" "LEyeStage$View;" ∈ tb := inT 387 (by decide +kernel)
theorem fl_RX9_20 : Cond.fieldLink RX9 20 RX9 "stage" "LEyeStage$Stage;" ∈ tb := inT 388 (by decide +kernel)
theorem fl_RX9_21 : Cond.fieldLink RX9 21 RX9 "otherView" "LEyeStage$View;" ∈ tb := inT 389 (by decide +kernel)
theorem fl_RX9_24 : Cond.fieldLink RX9 24 RX9 "otherStage" "LEyeStage$Stage;" ∈ tb := inT 390 (by decide +kernel)
theorem fl_RX9_30 : Cond.fieldLink RX9 30 RX9 "history" "LEyeStage$History;" ∈ tb := inT 391 (by decide +kernel)
theorem fl_RX9_37 : Cond.fieldLink RX9 37 RX9 "script" "LEyeStage$Script;" ∈ tb := inT 392 (by decide +kernel)
theorem fl_RX9_41 : Cond.fieldLink RX9 41 RX9 "stale" "Z" ∈ tb := inT 393 (by decide +kernel)
theorem ml_RL_139 : Cond.methodLink RL 139 yX9_clearTitle ∈ tb := inT 409 (by decide +kernel)
theorem im_X9_clearTitle : Cond.instanceMethod yX9_clearTitle ∈ tb := inT 410 (by decide +kernel)
theorem se_X9_clearTitle : Cond.selects RX9 yX9_clearTitle yX9_clearTitle ∈ tb := inT 411 (by decide +kernel)
theorem ml_RX9_55 : Cond.methodLink RX9 55 yX9_keepState ∈ tb := inT 413 (by decide +kernel)
theorem im_X9_keepState : Cond.instanceMethod yX9_keepState ∈ tb := inT 415 (by decide +kernel)
theorem ml_RX9_249 : Cond.methodLink RX9 249 yX1_save ∈ tb := inT 417 (by decide +kernel)
theorem im_X1_save : Cond.instanceMethod yX1_save ∈ tb := inT 418 (by decide +kernel)
theorem se_X1_save : Cond.selects RX1 yX1_save yX1_save ∈ tb := inT 419 (by decide +kernel)
theorem ml_RX1_21 : Cond.methodLink RX1 21 yX1_dropOldest ∈ tb := inT 421 (by decide +kernel)
theorem im_X1_dropOldest : Cond.instanceMethod yX1_dropOldest ∈ tb := inT 423 (by decide +kernel)
theorem ml_RX1_24 : Cond.methodLink RX1 24 yX5_init ∈ tb := inT 425 (by decide +kernel)
theorem ml_RX1_25 : Cond.methodLink RX1 25 yX5_copyFrom ∈ tb := inT 426 (by decide +kernel)
theorem im_X5_copyFrom : Cond.instanceMethod yX5_copyFrom ∈ tb := inT 427 (by decide +kernel)
theorem se_X5_copyFrom : Cond.selects RX5 yX5_copyFrom yX5_copyFrom ∈ tb := inT 428 (by decide +kernel)
theorem ml_RX5_75 : Cond.methodLink RX5 75 yX6_copyFrom ∈ tb := inT 430 (by decide +kernel)
theorem im_X6_copyFrom : Cond.instanceMethod yX6_copyFrom ∈ tb := inT 431 (by decide +kernel)
theorem se_X6_copyFrom : Cond.selects RX6 yX6_copyFrom yX6_copyFrom ∈ tb := inT 432 (by decide +kernel)
theorem sm_X9_copyRow : Cond.static yX9_copyRow ∈ tb := inT 435 (by decide +kernel)
theorem ml_RX9_278 : Cond.methodLink RX9 278 yJ9_min_7cf53 ∈ tb := inT 437 (by decide +kernel)
theorem sm_J9_min_7cf53 : Cond.static yJ9_min_7cf53 ∈ tb := inT 438 (by decide +kernel)
theorem ml_RX5_79 : Cond.methodLink RX5 79 yX3_copyFrom ∈ tb := inT 443 (by decide +kernel)
theorem im_X3_copyFrom : Cond.instanceMethod yX3_copyFrom ∈ tb := inT 444 (by decide +kernel)
theorem se_X3_copyFrom : Cond.selects RX3 yX3_copyFrom yX3_copyFrom ∈ tb := inT 445 (by decide +kernel)
theorem ml_RX9_122 : Cond.methodLink RX9 122 yX5_entitle ∈ tb := inT 449 (by decide +kernel)
theorem im_X5_entitle : Cond.instanceMethod yX5_entitle ∈ tb := inT 450 (by decide +kernel)
theorem se_X5_entitle : Cond.selects RX5 yX5_entitle yX5_entitle ∈ tb := inT 451 (by decide +kernel)
theorem ml_RL_181 : Cond.methodLink RL 181 yX9_fittingGain ∈ tb := inT 453 (by decide +kernel)
theorem im_X9_fittingGain : Cond.instanceMethod yX9_fittingGain ∈ tb := inT 454 (by decide +kernel)
theorem se_X9_fittingGain : Cond.selects RX9 yX9_fittingGain yX9_fittingGain ∈ tb := inT 455 (by decide +kernel)
theorem ml_RX9_134 : Cond.methodLink RX9 134 yX9_freshView ∈ tb := inT 457 (by decide +kernel)
theorem im_X9_freshView : Cond.instanceMethod yX9_freshView ∈ tb := inT 459 (by decide +kernel)
theorem ml_RX9_218 : Cond.methodLink RX9 218 yX7_measure ∈ tb := inT 461 (by decide +kernel)
theorem im_X7_measure : Cond.instanceMethod yX7_measure ∈ tb := inT 462 (by decide +kernel)
theorem se_X7_measure : Cond.selects RX7 yX7_measure yX7_measure ∈ tb := inT 463 (by decide +kernel)
theorem ml_RX7_41 : Cond.methodLink RX7 41 yX2_measure ∈ tb := inT 465 (by decide +kernel)
theorem im_X2_measure : Cond.instanceMethod yX2_measure ∈ tb := inT 466 (by decide +kernel)
theorem se_X2_measure : Cond.selects RX2 yX2_measure yX2_measure ∈ tb := inT 467 (by decide +kernel)
theorem ml_RX2_45 : Cond.methodLink RX2 45 yX2_placeNodes ∈ tb := inT 469 (by decide +kernel)
theorem im_X2_placeNodes : Cond.instanceMethod yX2_placeNodes ∈ tb := inT 471 (by decide +kernel)
theorem ml_RX2_61 : Cond.methodLink RX2 61 yX2_percentageWithin ∈ tb := inT 473 (by decide +kernel)
theorem im_X2_percentageWithin : Cond.instanceMethod yX2_percentageWithin ∈ tb := inT 474 (by decide +kernel)
theorem se_X2_percentageWithin : Cond.selects RX2 yX2_percentageWithin yX2_percentageWithin ∈ tb := inT 475 (by decide +kernel)
theorem ml_RX2_122 : Cond.methodLink RX2 122 yX2_fits ∈ tb := inT 477 (by decide +kernel)
theorem im_X2_fits : Cond.instanceMethod yX2_fits ∈ tb := inT 478 (by decide +kernel)
theorem se_X2_fits : Cond.selects RX2 yX2_fits yX2_fits ∈ tb := inT 479 (by decide +kernel)
theorem ml_RX2_76 : Cond.methodLink RX2 76 yX6_isBox ∈ tb := inT 481 (by decide +kernel)
theorem im_X6_isBox : Cond.instanceMethod yX6_isBox ∈ tb := inT 482 (by decide +kernel)
theorem se_X6_isBox : Cond.selects RX6 yX6_isBox yX6_isBox ∈ tb := inT 483 (by decide +kernel)
theorem ml_RX2_83 : Cond.methodLink RX2 83 yX2_rawShift ∈ tb := inT 485 (by decide +kernel)
theorem sm_X2_rawShift : Cond.static yX2_rawShift ∈ tb := inT 486 (by decide +kernel)
theorem ml_RX2_86 : Cond.methodLink RX2 86 yJ9_floorDiv_7cf53 ∈ tb := inT 488 (by decide +kernel)
theorem sm_J9_floorDiv_7cf53 : Cond.static yJ9_floorDiv_7cf53 ∈ tb := inT 489 (by decide +kernel)
theorem sm_X9_within : Cond.static yX9_within ∈ tb := inT 492 (by decide +kernel)
theorem sm_X9_columnOf : Cond.static yX9_columnOf ∈ tb := inT 495 (by decide +kernel)
theorem ml_RX9_273 : Cond.methodLink RX9 273 yJ9_floorDiv_7cf53 ∈ tb := inT 497 (by decide +kernel)
theorem ml_RX2_95 : Cond.methodLink RX2 95 yX2_putInOrder ∈ tb := inT 498 (by decide +kernel)
theorem im_X2_putInOrder : Cond.instanceMethod yX2_putInOrder ∈ tb := inT 500 (by decide +kernel)
theorem ml_RX2_111 : Cond.methodLink RX2 111 yX2_isNearer ∈ tb := inT 502 (by decide +kernel)
theorem im_X2_isNearer : Cond.instanceMethod yX2_isNearer ∈ tb := inT 504 (by decide +kernel)
theorem ml_RX2_115 : Cond.methodLink RX2 115 yX6_has ∈ tb := inT 506 (by decide +kernel)
theorem im_X6_has : Cond.instanceMethod yX6_has ∈ tb := inT 507 (by decide +kernel)
theorem se_X6_has : Cond.selects RX6 yX6_has yX6_has ∈ tb := inT 508 (by decide +kernel)
theorem ml_RX7_44 : Cond.methodLink RX7 44 yX7_windowShift ∈ tb := inT 510 (by decide +kernel)
theorem im_X7_windowShift : Cond.instanceMethod yX7_windowShift ∈ tb := inT 512 (by decide +kernel)
theorem ml_RX7_57 : Cond.methodLink RX7 57 yX7_greatestCut ∈ tb := inT 514 (by decide +kernel)
theorem im_X7_greatestCut : Cond.instanceMethod yX7_greatestCut ∈ tb := inT 516 (by decide +kernel)
theorem ml_RX7_69 : Cond.methodLink RX7 69 yX7_isCut ∈ tb := inT 518 (by decide +kernel)
theorem im_X7_isCut : Cond.instanceMethod yX7_isCut ∈ tb := inT 520 (by decide +kernel)
theorem ml_RX7_73 : Cond.methodLink RX7 73 yX2_inFrame ∈ tb := inT 522 (by decide +kernel)
theorem im_X2_inFrame : Cond.instanceMethod yX2_inFrame ∈ tb := inT 523 (by decide +kernel)
theorem se_X2_inFrame : Cond.selects RX2 yX2_inFrame yX2_inFrame ∈ tb := inT 524 (by decide +kernel)
theorem ml_RX7_86 : Cond.methodLink RX7 86 yX7_crosses ∈ tb := inT 526 (by decide +kernel)
theorem sm_X7_crosses : Cond.static yX7_crosses ∈ tb := inT 527 (by decide +kernel)
theorem ml_RX7_54 : Cond.methodLink RX7 54 yX7_findTitle ∈ tb := inT 529 (by decide +kernel)
theorem im_X7_findTitle : Cond.instanceMethod yX7_findTitle ∈ tb := inT 531 (by decide +kernel)
theorem ml_RX7_113 : Cond.methodLink RX7 113 yX7_titleCanStand ∈ tb := inT 533 (by decide +kernel)
theorem im_X7_titleCanStand : Cond.instanceMethod yX7_titleCanStand ∈ tb := inT 535 (by decide +kernel)
theorem ml_RX7_123 : Cond.methodLink RX7 123 yX7_firstOpen ∈ tb := inT 538 (by decide +kernel)
theorem im_X7_firstOpen : Cond.instanceMethod yX7_firstOpen ∈ tb := inT 540 (by decide +kernel)
theorem ml_RX7_126 : Cond.methodLink RX7 126 yX7_endOfOpen ∈ tb := inT 542 (by decide +kernel)
theorem im_X7_endOfOpen : Cond.instanceMethod yX7_endOfOpen ∈ tb := inT 544 (by decide +kernel)
theorem ml_RX7_129 : Cond.methodLink RX7 129 yX2_inRow ∈ tb := inT 546 (by decide +kernel)
theorem im_X2_inRow : Cond.instanceMethod yX2_inRow ∈ tb := inT 547 (by decide +kernel)
theorem se_X2_inRow : Cond.selects RX2 yX2_inRow yX2_inRow ∈ tb := inT 548 (by decide +kernel)
theorem ml_RX7_133 : Cond.methodLink RX7 133 yX2_column ∈ tb := inT 550 (by decide +kernel)
theorem im_X2_column : Cond.instanceMethod yX2_column ∈ tb := inT 551 (by decide +kernel)
theorem se_X2_column : Cond.selects RX2 yX2_column yX2_column ∈ tb := inT 552 (by decide +kernel)
theorem ml_RX9_190 : Cond.methodLink RX9 190 yX2_gainThatFits ∈ tb := inT 554 (by decide +kernel)
theorem im_X2_gainThatFits : Cond.instanceMethod yX2_gainThatFits ∈ tb := inT 555 (by decide +kernel)
theorem se_X2_gainThatFits : Cond.selects RX2 yX2_gainThatFits yX2_gainThatFits ∈ tb := inT 556 (by decide +kernel)
theorem ml_RL_194 : Cond.methodLink RL 194 yX9_clearCommands ∈ tb := inT 558 (by decide +kernel)
theorem im_X9_clearCommands : Cond.instanceMethod yX9_clearCommands ∈ tb := inT 559 (by decide +kernel)
theorem se_X9_clearCommands : Cond.selects RX9 yX9_clearCommands yX9_clearCommands ∈ tb := inT 560 (by decide +kernel)
theorem ml_RL_198 : Cond.methodLink RL 198 yX9_runCommands ∈ tb := inT 562 (by decide +kernel)
theorem im_X9_runCommands : Cond.instanceMethod yX9_runCommands ∈ tb := inT 563 (by decide +kernel)
theorem se_X9_runCommands : Cond.selects RX9 yX9_runCommands yX9_runCommands ∈ tb := inT 564 (by decide +kernel)
theorem ml_RX9_226 : Cond.methodLink RX9 226 yX4_findFault ∈ tb := inT 566 (by decide +kernel)
theorem im_X4_findFault : Cond.instanceMethod yX4_findFault ∈ tb := inT 567 (by decide +kernel)
theorem se_X4_findFault : Cond.selects RX4 yX4_findFault yX4_findFault ∈ tb := inT 568 (by decide +kernel)
theorem ml_RX4_29 : Cond.methodLink RX4 29 yX4_skipSpaces ∈ tb := inT 570 (by decide +kernel)
theorem im_X4_skipSpaces : Cond.instanceMethod yX4_skipSpaces ∈ tb := inT 572 (by decide +kernel)
theorem ml_RX4_25 : Cond.methodLink RX4 25 yX4_byteAt ∈ tb := inT 574 (by decide +kernel)
theorem im_X4_byteAt : Cond.instanceMethod yX4_byteAt ∈ tb := inT 576 (by decide +kernel)
theorem ml_RX4_32 : Cond.methodLink RX4 32 yX4_readCommand ∈ tb := inT 578 (by decide +kernel)
theorem im_X4_readCommand : Cond.instanceMethod yX4_readCommand ∈ tb := inT 580 (by decide +kernel)
theorem ml_RX4_40 : Cond.methodLink RX4 40 yX4_wordBetween ∈ tb := inT 582 (by decide +kernel)
theorem im_X4_wordBetween : Cond.instanceMethod yX4_wordBetween ∈ tb := inT 584 (by decide +kernel)
theorem ml_RX4_64 : Cond.methodLink RX4 64 yX4_isWritten ∈ tb := inT 588 (by decide +kernel)
theorem im_X4_isWritten : Cond.instanceMethod yX4_isWritten ∈ tb := inT 590 (by decide +kernel)
theorem ml_RX4_68 : Cond.methodLink RX4 68 yJ0_length_8abf5 ∈ tb := inT 592 (by decide +kernel)
theorem im_J0_length_8abf5 : Cond.instanceMethod yJ0_length_8abf5 ∈ tb := inT 593 (by decide +kernel)
theorem se_J0_length_8abf5 : Cond.selects RJ0 yJ0_length_8abf5 yJ0_length_8abf5 ∈ tb := inT 594 (by decide +kernel)
theorem ml_RJ0_335 : Cond.methodLink RJ0 335 yJ0_coder_7d493 ∈ tb := inT 596 (by decide +kernel)
theorem im_J0_coder_7d493 : Cond.instanceMethod yJ0_coder_7d493 ∈ tb := inT 597 (by decide +kernel)
theorem se_J0_coder_7d493 : Cond.selects RJ0 yJ0_coder_7d493 yJ0_coder_7d493 ∈ tb := inT 598 (by decide +kernel)
theorem fl_RJ0_38 : Cond.fieldLink RJ0 38 RJ0 "COMPACT_STRINGS" "Z" ∈ tb := inT 600 (by decide +kernel)
theorem ml_RX4_73 : Cond.methodLink RX4 73 yJ0_charAt_5068e ∈ tb := inT 602 (by decide +kernel)
theorem im_J0_charAt_5068e : Cond.instanceMethod yJ0_charAt_5068e ∈ tb := inT 603 (by decide +kernel)
theorem se_J0_charAt_5068e : Cond.selects RJ0 yJ0_charAt_5068e yJ0_charAt_5068e ∈ tb := inT 604 (by decide +kernel)
theorem ml_RJ0_492 : Cond.methodLink RJ0 492 yJ0_isLatin1_aae02 ∈ tb := inT 606 (by decide +kernel)
theorem im_J0_isLatin1_aae02 : Cond.instanceMethod yJ0_isLatin1_aae02 ∈ tb := inT 607 (by decide +kernel)
theorem se_J0_isLatin1_aae02 : Cond.selects RJ0 yJ0_isLatin1_aae02 yJ0_isLatin1_aae02 ∈ tb := inT 608 (by decide +kernel)
theorem ml_RJ0_495 : Cond.methodLink RJ0 495 yJ1_charAt_3b067 ∈ tb := inT 610 (by decide +kernel)
theorem sm_J1_charAt_3b067 : Cond.static yJ1_charAt_3b067 ∈ tb := inT 611 (by decide +kernel)
theorem ml_RJ1_9 : Cond.methodLink RJ1 9 yJ0_checkIndex_df160 ∈ tb := inT 613 (by decide +kernel)
theorem sm_J0_checkIndex_df160 : Cond.static yJ0_checkIndex_df160 ∈ tb := inT 614 (by decide +kernel)
theorem fl_RJ0_1053 : Cond.fieldLink RJ0 1053 RJ3 "SIOOBE_FORMATTER" "Ljava/util/function/BiFunction;" ∈ tb := inT 616 (by decide +kernel)
theorem ml_RJ0_1059 : Cond.methodLink RJ0 1059 yJ3_checkIndex_8e157 ∈ tb := inT 618 (by decide +kernel)
theorem sm_J3_checkIndex_8e157 : Cond.static yJ3_checkIndex_8e157 ∈ tb := inT 619 (by decide +kernel)
theorem ml_RJ0_498 : Cond.methodLink RJ0 498 yJ2_charAt_3b067 ∈ tb := inT 621 (by decide +kernel)
theorem sm_J2_charAt_3b067 : Cond.static yJ2_charAt_3b067 ∈ tb := inT 622 (by decide +kernel)
theorem ml_RJ2_67 : Cond.methodLink RJ2 67 yJ2_checkIndex_2214a ∈ tb := inT 624 (by decide +kernel)
theorem sm_J2_checkIndex_2214a : Cond.static yJ2_checkIndex_2214a ∈ tb := inT 625 (by decide +kernel)
theorem ml_RJ2_48 : Cond.methodLink RJ2 48 yJ2_length_9d52b ∈ tb := inT 627 (by decide +kernel)
theorem sm_J2_length_9d52b : Cond.static yJ2_length_9d52b ∈ tb := inT 628 (by decide +kernel)
theorem ml_RJ2_414 : Cond.methodLink RJ2 414 yJ0_checkIndex_df160 ∈ tb := inT 630 (by decide +kernel)
theorem ml_RJ2_71 : Cond.methodLink RJ2 71 yJ2_getChar_3b067 ∈ tb := inT 631 (by decide +kernel)
theorem sm_J2_getChar_3b067 : Cond.static yJ2_getChar_3b067 ∈ tb := inT 632 (by decide +kernel)
theorem fl_RJ2_44 : Cond.fieldLink RJ2 44 RJ2 "$assertionsDisabled" "Z" ∈ tb := inT 634 (by decide +kernel)
theorem fl_RJ2_59 : Cond.fieldLink RJ2 59 RJ2 "HI_BYTE_SHIFT" "I" ∈ tb := inT 636 (by decide +kernel)
theorem fl_RJ2_63 : Cond.fieldLink RJ2 63 RJ2 "LO_BYTE_SHIFT" "I" ∈ tb := inT 638 (by decide +kernel)
theorem ml_RX4_52 : Cond.methodLink RX4 52 yX4_readNumber ∈ tb := inT 640 (by decide +kernel)
theorem im_X4_readNumber : Cond.instanceMethod yX4_readNumber ∈ tb := inT 642 (by decide +kernel)
theorem ml_RX4_77 : Cond.methodLink RX4 77 yX4_isDigit ∈ tb := inT 644 (by decide +kernel)
theorem sm_X4_isDigit : Cond.static yX4_isDigit ∈ tb := inT 645 (by decide +kernel)
theorem ml_RX9_229 : Cond.methodLink RX9 229 yX4_runOn ∈ tb := inT 647 (by decide +kernel)
theorem im_X4_runOn : Cond.instanceMethod yX4_runOn ∈ tb := inT 648 (by decide +kernel)
theorem se_X4_runOn : Cond.selects RX4 yX4_runOn yX4_runOn ∈ tb := inT 649 (by decide +kernel)
theorem ml_RX4_36 : Cond.methodLink RX4 36 yX4_carryOut ∈ tb := inT 651 (by decide +kernel)
theorem im_X4_carryOut : Cond.instanceMethod yX4_carryOut ∈ tb := inT 653 (by decide +kernel)
theorem ml_RX4_80 : Cond.methodLink RX4 80 yX4_faultOn ∈ tb := inT 655 (by decide +kernel)
theorem im_X4_faultOn : Cond.instanceMethod yX4_faultOn ∈ tb := inT 657 (by decide +kernel)
theorem fl_RX4_88 : Cond.fieldLink RX4 88 RX0 "$SwitchMap$EyeStage$Word" "[I" ∈ tb := inT 659 (by decide +kernel)
theorem im_Jx29ce0_ordinal_8abf5 : Cond.instanceMethod yJx29ce0_ordinal_8abf5 ∈ tb := inT 665 (by decide +kernel)
theorem ml_RX4_96 : Cond.methodLink RX4 96 yX5_faultOfFrame ∈ tb := inT 667 (by decide +kernel)
theorem im_X5_faultOfFrame : Cond.instanceMethod yX5_faultOfFrame ∈ tb := inT 668 (by decide +kernel)
theorem se_X5_faultOfFrame : Cond.selects RX5 yX5_faultOfFrame yX5_faultOfFrame ∈ tb := inT 669 (by decide +kernel)
theorem ml_RX4_106 : Cond.methodLink RX4 106 yX6_faultOfGroup ∈ tb := inT 672 (by decide +kernel)
theorem im_X6_faultOfGroup : Cond.instanceMethod yX6_faultOfGroup ∈ tb := inT 673 (by decide +kernel)
theorem se_X6_faultOfGroup : Cond.selects RX6 yX6_faultOfGroup yX6_faultOfGroup ∈ tb := inT 674 (by decide +kernel)
theorem ml_RX6_47 : Cond.methodLink RX6 47 yX6_has ∈ tb := inT 676 (by decide +kernel)
theorem ml_RX6_43 : Cond.methodLink RX6 43 yX6_isBox ∈ tb := inT 677 (by decide +kernel)
theorem ml_RX6_53 : Cond.methodLink RX6 53 yX6_isPlace ∈ tb := inT 678 (by decide +kernel)
theorem sm_X6_isPlace : Cond.static yX6_isPlace ∈ tb := inT 679 (by decide +kernel)
theorem ml_RX6_50 : Cond.methodLink RX6 50 yX6_isCoordinate ∈ tb := inT 681 (by decide +kernel)
theorem sm_X6_isCoordinate : Cond.static yX6_isCoordinate ∈ tb := inT 682 (by decide +kernel)
theorem ml_RX6_57 : Cond.methodLink RX6 57 yX6_aroundChildOf ∈ tb := inT 684 (by decide +kernel)
theorem im_X6_aroundChildOf : Cond.instanceMethod yX6_aroundChildOf ∈ tb := inT 686 (by decide +kernel)
theorem ml_RX4_112 : Cond.methodLink RX4 112 yX6_faultOfBox ∈ tb := inT 688 (by decide +kernel)
theorem im_X6_faultOfBox : Cond.instanceMethod yX6_faultOfBox ∈ tb := inT 689 (by decide +kernel)
theorem se_X6_faultOfBox : Cond.selects RX6 yX6_faultOfBox yX6_faultOfBox ∈ tb := inT 690 (by decide +kernel)
theorem ml_RX6_61 : Cond.methodLink RX6 61 yX6_faultOfGroup ∈ tb := inT 692 (by decide +kernel)
theorem ml_RX4_116 : Cond.methodLink RX4 116 yX6_faultOfPlacing ∈ tb := inT 694 (by decide +kernel)
theorem im_X6_faultOfPlacing : Cond.instanceMethod yX6_faultOfPlacing ∈ tb := inT 695 (by decide +kernel)
theorem se_X6_faultOfPlacing : Cond.selects RX6 yX6_faultOfPlacing yX6_faultOfPlacing ∈ tb := inT 696 (by decide +kernel)
theorem ml_RX4_123 : Cond.methodLink RX4 123 yX3_faultOfScene ∈ tb := inT 698 (by decide +kernel)
theorem im_X3_faultOfScene : Cond.instanceMethod yX3_faultOfScene ∈ tb := inT 699 (by decide +kernel)
theorem se_X3_faultOfScene : Cond.selects RX3 yX3_faultOfScene yX3_faultOfScene ∈ tb := inT 700 (by decide +kernel)
theorem sm_X9_faultOfBudget : Cond.static yX9_faultOfBudget ∈ tb := inT 703 (by decide +kernel)
theorem ml_RX9_269 : Cond.methodLink RX9 269 yX9_within ∈ tb := inT 705 (by decide +kernel)
theorem sm_X9_faultOfRange : Cond.static yX9_faultOfRange ∈ tb := inT 707 (by decide +kernel)
theorem ml_RX4_129 : Cond.methodLink RX4 129 yX5_faultOfSetting ∈ tb := inT 709 (by decide +kernel)
theorem im_X5_faultOfSetting : Cond.instanceMethod yX5_faultOfSetting ∈ tb := inT 710 (by decide +kernel)
theorem se_X5_faultOfSetting : Cond.selects RX5 yX5_faultOfSetting yX5_faultOfSetting ∈ tb := inT 711 (by decide +kernel)
theorem ml_RX4_132 : Cond.methodLink RX4 132 yX5_faultOfTitle ∈ tb := inT 718 (by decide +kernel)
theorem im_X5_faultOfTitle : Cond.instanceMethod yX5_faultOfTitle ∈ tb := inT 719 (by decide +kernel)
theorem se_X5_faultOfTitle : Cond.selects RX5 yX5_faultOfTitle yX5_faultOfTitle ∈ tb := inT 720 (by decide +kernel)
theorem ml_RX4_135 : Cond.methodLink RX4 135 yX6_faultOfNumber ∈ tb := inT 722 (by decide +kernel)
theorem im_X6_faultOfNumber : Cond.instanceMethod yX6_faultOfNumber ∈ tb := inT 723 (by decide +kernel)
theorem se_X6_faultOfNumber : Cond.selects RX6 yX6_faultOfNumber yX6_faultOfNumber ∈ tb := inT 724 (by decide +kernel)
theorem ml_RX4_138 : Cond.methodLink RX4 138 yX5_faultOfTicks ∈ tb := inT 726 (by decide +kernel)
theorem im_X5_faultOfTicks : Cond.instanceMethod yX5_faultOfTicks ∈ tb := inT 727 (by decide +kernel)
theorem se_X5_faultOfTicks : Cond.selects RX5 yX5_faultOfTicks yX5_faultOfTicks ∈ tb := inT 728 (by decide +kernel)
theorem ml_RX4_84 : Cond.methodLink RX4 84 yX4_applyTo ∈ tb := inT 730 (by decide +kernel)
theorem im_X4_applyTo : Cond.instanceMethod yX4_applyTo ∈ tb := inT 732 (by decide +kernel)
theorem ml_RX4_141 : Cond.methodLink RX4 141 yX5_reframe ∈ tb := inT 734 (by decide +kernel)
theorem im_X5_reframe : Cond.instanceMethod yX5_reframe ∈ tb := inT 735 (by decide +kernel)
theorem se_X5_reframe : Cond.selects RX5 yX5_reframe yX5_reframe ∈ tb := inT 736 (by decide +kernel)
theorem ml_RX5_46 : Cond.methodLink RX5 46 yX3_clear ∈ tb := inT 738 (by decide +kernel)
theorem im_X3_clear : Cond.instanceMethod yX3_clear ∈ tb := inT 739 (by decide +kernel)
theorem se_X3_clear : Cond.selects RX3 yX3_clear yX3_clear ∈ tb := inT 740 (by decide +kernel)
theorem ml_RX5_49 : Cond.methodLink RX5 49 yX5_entitle ∈ tb := inT 742 (by decide +kernel)
theorem ml_RX4_144 : Cond.methodLink RX4 144 yX6_appendGroup ∈ tb := inT 743 (by decide +kernel)
theorem im_X6_appendGroup : Cond.instanceMethod yX6_appendGroup ∈ tb := inT 744 (by decide +kernel)
theorem se_X6_appendGroup : Cond.selects RX6 yX6_appendGroup yX6_appendGroup ∈ tb := inT 745 (by decide +kernel)
theorem ml_RX6_68 : Cond.methodLink RX6 68 yX6_appendBox ∈ tb := inT 747 (by decide +kernel)
theorem im_X6_appendBox : Cond.instanceMethod yX6_appendBox ∈ tb := inT 748 (by decide +kernel)
theorem se_X6_appendBox : Cond.selects RX6 yX6_appendBox yX6_appendBox ∈ tb := inT 749 (by decide +kernel)
theorem ml_RX4_147 : Cond.methodLink RX4 147 yX6_appendBox ∈ tb := inT 751 (by decide +kernel)
theorem ml_RX4_150 : Cond.methodLink RX4 150 yX6_placeAt ∈ tb := inT 752 (by decide +kernel)
theorem im_X6_placeAt : Cond.instanceMethod yX6_placeAt ∈ tb := inT 753 (by decide +kernel)
theorem se_X6_placeAt : Cond.selects RX6 yX6_placeAt yX6_placeAt ∈ tb := inT 754 (by decide +kernel)
theorem ml_RX4_153 : Cond.methodLink RX4 153 yX3_append ∈ tb := inT 756 (by decide +kernel)
theorem im_X3_append : Cond.instanceMethod yX3_append ∈ tb := inT 757 (by decide +kernel)
theorem se_X3_append : Cond.selects RX3 yX3_append yX3_append ∈ tb := inT 758 (by decide +kernel)
theorem ml_RX4_156 : Cond.methodLink RX4 156 yX5_change ∈ tb := inT 760 (by decide +kernel)
theorem im_X5_change : Cond.instanceMethod yX5_change ∈ tb := inT 761 (by decide +kernel)
theorem se_X5_change : Cond.selects RX5 yX5_change yX5_change ∈ tb := inT 762 (by decide +kernel)
theorem ml_RX4_159 : Cond.methodLink RX4 159 yX5_entitle ∈ tb := inT 764 (by decide +kernel)
theorem ml_RX4_162 : Cond.methodLink RX4 162 yX6_drop ∈ tb := inT 765 (by decide +kernel)
theorem im_X6_drop : Cond.instanceMethod yX6_drop ∈ tb := inT 766 (by decide +kernel)
theorem se_X6_drop : Cond.selects RX6 yX6_drop yX6_drop ∈ tb := inT 767 (by decide +kernel)
theorem ml_RX6_72 : Cond.methodLink RX6 72 yX6_shiftDown ∈ tb := inT 769 (by decide +kernel)
theorem im_X6_shiftDown : Cond.instanceMethod yX6_shiftDown ∈ tb := inT 771 (by decide +kernel)
theorem ml_RX4_165 : Cond.methodLink RX4 165 yX5_pass ∈ tb := inT 773 (by decide +kernel)
theorem im_X5_pass : Cond.instanceMethod yX5_pass ∈ tb := inT 774 (by decide +kernel)
theorem se_X5_pass : Cond.selects RX5 yX5_pass yX5_pass ∈ tb := inT 775 (by decide +kernel)
theorem ml_RX5_71 : Cond.methodLink RX5 71 yX3_passTick ∈ tb := inT 777 (by decide +kernel)
theorem im_X3_passTick : Cond.instanceMethod yX3_passTick ∈ tb := inT 778 (by decide +kernel)
theorem se_X3_passTick : Cond.selects RX3 yX3_passTick yX3_passTick ∈ tb := inT 779 (by decide +kernel)
theorem ml_RX3_42 : Cond.methodLink RX3 42 yX3_present ∈ tb := inT 781 (by decide +kernel)
theorem im_X3_present : Cond.instanceMethod yX3_present ∈ tb := inT 782 (by decide +kernel)
theorem se_X3_present : Cond.selects RX3 yX3_present yX3_present ∈ tb := inT 783 (by decide +kernel)
theorem ml_RX3_46 : Cond.methodLink RX3 46 yX3_has ∈ tb := inT 785 (by decide +kernel)
theorem im_X3_has : Cond.instanceMethod yX3_has ∈ tb := inT 786 (by decide +kernel)
theorem se_X3_has : Cond.selects RX3 yX3_has yX3_has ∈ tb := inT 787 (by decide +kernel)
theorem ml_RX3_50 : Cond.methodLink RX3 50 yX3_towards ∈ tb := inT 789 (by decide +kernel)
theorem sm_X3_towards : Cond.static yX3_towards ∈ tb := inT 790 (by decide +kernel)
theorem ml_RX3_53 : Cond.methodLink RX3 53 yJ9_min_7cf53 ∈ tb := inT 792 (by decide +kernel)
theorem ml_RX3_58 : Cond.methodLink RX3 58 yJ9_max_7cf53 ∈ tb := inT 793 (by decide +kernel)
theorem sm_J9_max_7cf53 : Cond.static yJ9_max_7cf53 ∈ tb := inT 794 (by decide +kernel)
theorem ml_RL_206 : Cond.methodLink RL 206 yX9_digest ∈ tb := inT 796 (by decide +kernel)
theorem im_X9_digest : Cond.instanceMethod yX9_digest ∈ tb := inT 797 (by decide +kernel)
theorem se_X9_digest : Cond.selects RX9 yX9_digest yX9_digest ∈ tb := inT 798 (by decide +kernel)
theorem kl_RX9_239 : Cond.constantLong RX9 239 (18767 : Int64) ∈ tb := inT 800 (by decide +kernel)
theorem kl_RX9_241 : Cond.constantLong RX9 241 (31 : Int64) ∈ tb := inT 801 (by decide +kernel)
theorem ml_RX9_158 : Cond.methodLink RX9 158 yX7_wholeValue ∈ tb := inT 802 (by decide +kernel)
theorem im_X7_wholeValue : Cond.instanceMethod yX7_wholeValue ∈ tb := inT 803 (by decide +kernel)
theorem se_X7_wholeValue : Cond.selects RX7 yX7_wholeValue yX7_wholeValue ∈ tb := inT 804 (by decide +kernel)
theorem ml_RX7_142 : Cond.methodLink RX7 142 yX6_boxes ∈ tb := inT 806 (by decide +kernel)
theorem im_X6_boxes : Cond.instanceMethod yX6_boxes ∈ tb := inT 807 (by decide +kernel)
theorem se_X6_boxes : Cond.selects RX6 yX6_boxes yX6_boxes ∈ tb := inT 808 (by decide +kernel)
theorem ml_RX7_150 : Cond.methodLink RX7 150 yX3_present ∈ tb := inT 810 (by decide +kernel)
theorem ml_RX9_142 : Cond.methodLink RX9 142 yX2_valueOf ∈ tb := inT 811 (by decide +kernel)
theorem im_X2_valueOf : Cond.instanceMethod yX2_valueOf ∈ tb := inT 812 (by decide +kernel)
theorem se_X2_valueOf : Cond.selects RX2 yX2_valueOf yX2_valueOf ∈ tb := inT 813 (by decide +kernel)
theorem ml_RX2_148 : Cond.methodLink RX2 148 yX6_children ∈ tb := inT 815 (by decide +kernel)
theorem im_X6_children : Cond.instanceMethod yX6_children ∈ tb := inT 816 (by decide +kernel)
theorem se_X6_children : Cond.selects RX6 yX6_children yX6_children ∈ tb := inT 817 (by decide +kernel)
theorem ml_RX9_154 : Cond.methodLink RX9 154 yX3_valueOf ∈ tb := inT 819 (by decide +kernel)
theorem im_X3_valueOf : Cond.instanceMethod yX3_valueOf ∈ tb := inT 820 (by decide +kernel)
theorem se_X3_valueOf : Cond.selects RX3 yX3_valueOf yX3_valueOf ∈ tb := inT 821 (by decide +kernel)
theorem ml_RX3_61 : Cond.methodLink RX3 61 yX3_beginOf ∈ tb := inT 823 (by decide +kernel)
theorem im_X3_beginOf : Cond.instanceMethod yX3_beginOf ∈ tb := inT 824 (by decide +kernel)
theorem se_X3_beginOf : Cond.selects RX3 yX3_beginOf yX3_beginOf ∈ tb := inT 825 (by decide +kernel)
theorem ml_RX9_155 : Cond.methodLink RX9 155 yX7_titleValue ∈ tb := inT 827 (by decide +kernel)
theorem im_X7_titleValue : Cond.instanceMethod yX7_titleValue ∈ tb := inT 828 (by decide +kernel)
theorem se_X7_titleValue : Cond.selects RX7 yX7_titleValue yX7_titleValue ∈ tb := inT 829 (by decide +kernel)
theorem ml_RX7_136 : Cond.methodLink RX7 136 yX7_titleColumn ∈ tb := inT 831 (by decide +kernel)
theorem im_X7_titleColumn : Cond.instanceMethod yX7_titleColumn ∈ tb := inT 833 (by decide +kernel)
theorem ml_RX9_245 : Cond.methodLink RX9 245 yX7_hashImages ∈ tb := inT 835 (by decide +kernel)
theorem im_X7_hashImages : Cond.instanceMethod yX7_hashImages ∈ tb := inT 836 (by decide +kernel)
theorem se_X7_hashImages : Cond.selects RX7 yX7_hashImages yX7_hashImages ∈ tb := inT 837 (by decide +kernel)
theorem ml_RX7_184 : Cond.methodLink RX7 184 yX7_holdRow ∈ tb := inT 839 (by decide +kernel)
theorem im_X7_holdRow : Cond.instanceMethod yX7_holdRow ∈ tb := inT 841 (by decide +kernel)
theorem ml_RX7_192 : Cond.methodLink RX7 192 yX7_isLikeAbove ∈ tb := inT 843 (by decide +kernel)
theorem im_X7_isLikeAbove : Cond.instanceMethod yX7_isLikeAbove ∈ tb := inT 845 (by decide +kernel)
theorem ml_RX7_195 : Cond.methodLink RX7 195 yX7_paintRow ∈ tb := inT 847 (by decide +kernel)
theorem im_X7_paintRow : Cond.instanceMethod yX7_paintRow ∈ tb := inT 849 (by decide +kernel)
theorem ml_RX7_199 : Cond.methodLink RX7 199 yX7_fill ∈ tb := inT 851 (by decide +kernel)
theorem im_X7_fill : Cond.instanceMethod yX7_fill ∈ tb := inT 853 (by decide +kernel)
theorem ml_RX7_208 : Cond.methodLink RX7 208 yJ9_min_7cf53 ∈ tb := inT 855 (by decide +kernel)
theorem ml_RX7_211 : Cond.methodLink RX7 211 yJ9_max_7cf53 ∈ tb := inT 856 (by decide +kernel)
theorem ml_RX7_205 : Cond.methodLink RX7 205 yX2_boxAt ∈ tb := inT 857 (by decide +kernel)
theorem im_X2_boxAt : Cond.instanceMethod yX2_boxAt ∈ tb := inT 858 (by decide +kernel)
theorem se_X2_boxAt : Cond.selects RX2 yX2_boxAt yX2_boxAt ∈ tb := inT 859 (by decide +kernel)
theorem kl_RX7_190 : Cond.constantLong RX7 190 (31 : Int64) ∈ tb := inT 861 (by decide +kernel)
theorem ml_RL_102 : Cond.methodLink RL 102 yL_begin ∈ tb := inT 862 (by decide +kernel)
theorem sm_L_begin : Cond.static yL_begin ∈ tb := inT 863 (by decide +kernel)
theorem ml_RL_7 : Cond.methodLink RL 7 yX9_begin ∈ tb := inT 866 (by decide +kernel)
theorem im_X9_begin : Cond.instanceMethod yX9_begin ∈ tb := inT 867 (by decide +kernel)
theorem se_X9_begin : Cond.selects RX9 yX9_begin yX9_begin ∈ tb := inT 868 (by decide +kernel)
theorem ml_RX9_45 : Cond.methodLink RX9 45 yX5_faultOfFrame ∈ tb := inT 870 (by decide +kernel)
theorem ml_RX9_51 : Cond.methodLink RX9 51 yX9_refuse ∈ tb := inT 871 (by decide +kernel)
theorem sm_X9_refuse : Cond.static yX9_refuse ∈ tb := inT 872 (by decide +kernel)
theorem ml_RX9_58 : Cond.methodLink RX9 58 yX5_reframe ∈ tb := inT 974 (by decide +kernel)
theorem ml_RL_111 : Cond.methodLink RL 111 yL_addGroup ∈ tb := inT 975 (by decide +kernel)
theorem sm_L_addGroup : Cond.static yL_addGroup ∈ tb := inT 976 (by decide +kernel)
theorem ml_RL_15 : Cond.methodLink RL 15 yX9_addGroup ∈ tb := inT 980 (by decide +kernel)
theorem im_X9_addGroup : Cond.instanceMethod yX9_addGroup ∈ tb := inT 981 (by decide +kernel)
theorem se_X9_addGroup : Cond.selects RX9 yX9_addGroup yX9_addGroup ∈ tb := inT 982 (by decide +kernel)
theorem ml_RX9_65 : Cond.methodLink RX9 65 yX6_faultOfGroup ∈ tb := inT 984 (by decide +kernel)
theorem ml_RX9_71 : Cond.methodLink RX9 71 yX6_appendGroup ∈ tb := inT 985 (by decide +kernel)
theorem ml_RL_115 : Cond.methodLink RL 115 yL_addBox ∈ tb := inT 986 (by decide +kernel)
theorem sm_L_addBox : Cond.static yL_addBox ∈ tb := inT 987 (by decide +kernel)
theorem ml_RL_23 : Cond.methodLink RL 23 yX9_addBox ∈ tb := inT 989 (by decide +kernel)
theorem im_X9_addBox : Cond.instanceMethod yX9_addBox ∈ tb := inT 990 (by decide +kernel)
theorem se_X9_addBox : Cond.selects RX9 yX9_addBox yX9_addBox ∈ tb := inT 991 (by decide +kernel)
theorem ml_RX9_74 : Cond.methodLink RX9 74 yX6_faultOfBox ∈ tb := inT 993 (by decide +kernel)
theorem ml_RX9_78 : Cond.methodLink RX9 78 yX6_appendBox ∈ tb := inT 994 (by decide +kernel)
theorem ml_RL_119 : Cond.methodLink RL 119 yL_move ∈ tb := inT 995 (by decide +kernel)
theorem sm_L_move : Cond.static yL_move ∈ tb := inT 996 (by decide +kernel)
theorem ml_RL_27 : Cond.methodLink RL 27 yX9_move ∈ tb := inT 998 (by decide +kernel)
theorem im_X9_move : Cond.instanceMethod yX9_move ∈ tb := inT 999 (by decide +kernel)
theorem se_X9_move : Cond.selects RX9 yX9_move yX9_move ∈ tb := inT 1000 (by decide +kernel)
theorem ml_RX9_81 : Cond.methodLink RX9 81 yX6_faultOfPlacing ∈ tb := inT 1002 (by decide +kernel)
theorem ml_RX9_84 : Cond.methodLink RX9 84 yX6_placeAt ∈ tb := inT 1003 (by decide +kernel)
theorem ml_RL_122 : Cond.methodLink RL 122 yL_setShade ∈ tb := inT 1004 (by decide +kernel)
theorem sm_L_setShade : Cond.static yL_setShade ∈ tb := inT 1005 (by decide +kernel)
theorem ml_RL_30 : Cond.methodLink RL 30 yX9_setShade ∈ tb := inT 1007 (by decide +kernel)
theorem im_X9_setShade : Cond.instanceMethod yX9_setShade ∈ tb := inT 1008 (by decide +kernel)
theorem se_X9_setShade : Cond.selects RX9 yX9_setShade yX9_setShade ∈ tb := inT 1009 (by decide +kernel)
theorem ml_RX9_87 : Cond.methodLink RX9 87 yX6_faultOfColour ∈ tb := inT 1011 (by decide +kernel)
theorem im_X6_faultOfColour : Cond.instanceMethod yX6_faultOfColour ∈ tb := inT 1012 (by decide +kernel)
theorem se_X6_faultOfColour : Cond.selects RX6 yX6_faultOfColour yX6_faultOfColour ∈ tb := inT 1013 (by decide +kernel)
theorem ml_RX9_90 : Cond.methodLink RX9 90 yX6_colour ∈ tb := inT 1015 (by decide +kernel)
theorem im_X6_colour : Cond.instanceMethod yX6_colour ∈ tb := inT 1016 (by decide +kernel)
theorem se_X6_colour : Cond.selects RX6 yX6_colour yX6_colour ∈ tb := inT 1017 (by decide +kernel)
theorem ml_RL_125 : Cond.methodLink RL 125 yL_removeNode ∈ tb := inT 1019 (by decide +kernel)
theorem sm_L_removeNode : Cond.static yL_removeNode ∈ tb := inT 1020 (by decide +kernel)
theorem ml_RL_33 : Cond.methodLink RL 33 yX9_removeNode ∈ tb := inT 1022 (by decide +kernel)
theorem im_X9_removeNode : Cond.instanceMethod yX9_removeNode ∈ tb := inT 1023 (by decide +kernel)
theorem se_X9_removeNode : Cond.selects RX9 yX9_removeNode yX9_removeNode ∈ tb := inT 1024 (by decide +kernel)
theorem ml_RX9_93 : Cond.methodLink RX9 93 yX6_faultOfNumber ∈ tb := inT 1026 (by decide +kernel)
theorem ml_RX9_97 : Cond.methodLink RX9 97 yX6_drop ∈ tb := inT 1027 (by decide +kernel)
theorem ml_RL_129 : Cond.methodLink RL 129 yL_addScene ∈ tb := inT 1028 (by decide +kernel)
theorem sm_L_addScene : Cond.static yL_addScene ∈ tb := inT 1029 (by decide +kernel)
theorem ml_RL_37 : Cond.methodLink RL 37 yX9_addScene ∈ tb := inT 1031 (by decide +kernel)
theorem im_X9_addScene : Cond.instanceMethod yX9_addScene ∈ tb := inT 1032 (by decide +kernel)
theorem se_X9_addScene : Cond.selects RX9 yX9_addScene yX9_addScene ∈ tb := inT 1033 (by decide +kernel)
theorem ml_RX9_104 : Cond.methodLink RX9 104 yX3_faultOfScene ∈ tb := inT 1035 (by decide +kernel)
theorem ml_RX9_110 : Cond.methodLink RX9 110 yX3_append ∈ tb := inT 1036 (by decide +kernel)
theorem ml_RL_133 : Cond.methodLink RL 133 yL_set ∈ tb := inT 1037 (by decide +kernel)
theorem sm_L_set : Cond.static yL_set ∈ tb := inT 1038 (by decide +kernel)
theorem ml_RL_41 : Cond.methodLink RL 41 yX9_set ∈ tb := inT 1040 (by decide +kernel)
theorem im_X9_set : Cond.instanceMethod yX9_set ∈ tb := inT 1041 (by decide +kernel)
theorem se_X9_set : Cond.selects RX9 yX9_set yX9_set ∈ tb := inT 1042 (by decide +kernel)
theorem ml_RX9_113 : Cond.methodLink RX9 113 yX5_faultOfSetting ∈ tb := inT 1044 (by decide +kernel)
theorem ml_RX9_116 : Cond.methodLink RX9 116 yX5_change ∈ tb := inT 1045 (by decide +kernel)
theorem ml_RL_136 : Cond.methodLink RL 136 yL_setTitle ∈ tb := inT 1046 (by decide +kernel)
theorem sm_L_setTitle : Cond.static yL_setTitle ∈ tb := inT 1047 (by decide +kernel)
theorem ml_RL_44 : Cond.methodLink RL 44 yX9_setTitle ∈ tb := inT 1049 (by decide +kernel)
theorem im_X9_setTitle : Cond.instanceMethod yX9_setTitle ∈ tb := inT 1050 (by decide +kernel)
theorem se_X9_setTitle : Cond.selects RX9 yX9_setTitle yX9_setTitle ∈ tb := inT 1051 (by decide +kernel)
theorem ml_RX9_119 : Cond.methodLink RX9 119 yX5_faultOfTitle ∈ tb := inT 1053 (by decide +kernel)
theorem ml_RL_143 : Cond.methodLink RL 143 yL_tick ∈ tb := inT 1054 (by decide +kernel)
theorem sm_L_tick : Cond.static yL_tick ∈ tb := inT 1055 (by decide +kernel)
theorem ml_RL_47 : Cond.methodLink RL 47 yX9_tick ∈ tb := inT 1057 (by decide +kernel)
theorem im_X9_tick : Cond.instanceMethod yX9_tick ∈ tb := inT 1058 (by decide +kernel)
theorem se_X9_tick : Cond.selects RX9 yX9_tick yX9_tick ∈ tb := inT 1059 (by decide +kernel)
theorem ml_RX9_125 : Cond.methodLink RX9 125 yX5_faultOfTicks ∈ tb := inT 1061 (by decide +kernel)
theorem ml_RX9_128 : Cond.methodLink RX9 128 yX5_pass ∈ tb := inT 1062 (by decide +kernel)
theorem ml_RL_146 : Cond.methodLink RL 146 yL_node ∈ tb := inT 1063 (by decide +kernel)
theorem sm_L_node : Cond.static yL_node ∈ tb := inT 1064 (by decide +kernel)
theorem ml_RL_50 : Cond.methodLink RL 50 yX9_node ∈ tb := inT 1066 (by decide +kernel)
theorem im_X9_node : Cond.instanceMethod yX9_node ∈ tb := inT 1067 (by decide +kernel)
theorem se_X9_node : Cond.selects RX9 yX9_node yX9_node ∈ tb := inT 1068 (by decide +kernel)
theorem ml_RX9_131 : Cond.methodLink RX9 131 yX9_faultOfRange ∈ tb := inT 1070 (by decide +kernel)
theorem ml_RL_149 : Cond.methodLink RL 149 yL_painted ∈ tb := inT 1071 (by decide +kernel)
theorem sm_L_painted : Cond.static yL_painted ∈ tb := inT 1072 (by decide +kernel)
theorem ml_RL_53 : Cond.methodLink RL 53 yX9_painted ∈ tb := inT 1074 (by decide +kernel)
theorem im_X9_painted : Cond.instanceMethod yX9_painted ∈ tb := inT 1075 (by decide +kernel)
theorem se_X9_painted : Cond.selects RX9 yX9_painted yX9_painted ∈ tb := inT 1076 (by decide +kernel)
theorem ml_RX9_147 : Cond.methodLink RX9 147 yX2_boxAt ∈ tb := inT 1078 (by decide +kernel)
theorem ml_RL_152 : Cond.methodLink RL 152 yL_scene ∈ tb := inT 1079 (by decide +kernel)
theorem sm_L_scene : Cond.static yL_scene ∈ tb := inT 1080 (by decide +kernel)
theorem ml_RL_56 : Cond.methodLink RL 56 yX9_scene ∈ tb := inT 1082 (by decide +kernel)
theorem im_X9_scene : Cond.instanceMethod yX9_scene ∈ tb := inT 1083 (by decide +kernel)
theorem se_X9_scene : Cond.selects RX9 yX9_scene yX9_scene ∈ tb := inT 1084 (by decide +kernel)
theorem ml_RX9_150 : Cond.methodLink RX9 150 yX3_has ∈ tb := inT 1086 (by decide +kernel)
theorem ml_RL_155 : Cond.methodLink RL 155 yL_title ∈ tb := inT 1087 (by decide +kernel)
theorem sm_L_title : Cond.static yL_title ∈ tb := inT 1088 (by decide +kernel)
theorem ml_RL_59 : Cond.methodLink RL 59 yX9_title ∈ tb := inT 1090 (by decide +kernel)
theorem im_X9_title : Cond.instanceMethod yX9_title ∈ tb := inT 1091 (by decide +kernel)
theorem se_X9_title : Cond.selects RX9 yX9_title yX9_title ∈ tb := inT 1092 (by decide +kernel)
theorem ml_RL_158 : Cond.methodLink RL 158 yL_whole ∈ tb := inT 1094 (by decide +kernel)
theorem sm_L_whole : Cond.static yL_whole ∈ tb := inT 1095 (by decide +kernel)
theorem ml_RL_62 : Cond.methodLink RL 62 yX9_whole ∈ tb := inT 1097 (by decide +kernel)
theorem im_X9_whole : Cond.instanceMethod yX9_whole ∈ tb := inT 1098 (by decide +kernel)
theorem se_X9_whole : Cond.selects RX9 yX9_whole yX9_whole ∈ tb := inT 1099 (by decide +kernel)
theorem ml_RL_161 : Cond.methodLink RL 161 yL_shade ∈ tb := inT 1101 (by decide +kernel)
theorem sm_L_shade : Cond.static yL_shade ∈ tb := inT 1102 (by decide +kernel)
theorem ml_RL_65 : Cond.methodLink RL 65 yX9_shade ∈ tb := inT 1104 (by decide +kernel)
theorem im_X9_shade : Cond.instanceMethod yX9_shade ∈ tb := inT 1105 (by decide +kernel)
theorem se_X9_shade : Cond.selects RX9 yX9_shade yX9_shade ∈ tb := inT 1106 (by decide +kernel)
theorem ml_RX9_161 : Cond.methodLink RX9 161 yX5_faultOfCell ∈ tb := inT 1108 (by decide +kernel)
theorem im_X5_faultOfCell : Cond.instanceMethod yX5_faultOfCell ∈ tb := inT 1109 (by decide +kernel)
theorem se_X5_faultOfCell : Cond.selects RX5 yX5_faultOfCell yX5_faultOfCell ∈ tb := inT 1110 (by decide +kernel)
theorem ml_RX9_164 : Cond.methodLink RX9 164 yX7_shadeAt ∈ tb := inT 1112 (by decide +kernel)
theorem im_X7_shadeAt : Cond.instanceMethod yX7_shadeAt ∈ tb := inT 1113 (by decide +kernel)
theorem se_X7_shadeAt : Cond.selects RX7 yX7_shadeAt yX7_shadeAt ∈ tb := inT 1114 (by decide +kernel)
theorem ml_RX7_162 : Cond.methodLink RX7 162 yX2_frontBox ∈ tb := inT 1116 (by decide +kernel)
theorem im_X2_frontBox : Cond.instanceMethod yX2_frontBox ∈ tb := inT 1117 (by decide +kernel)
theorem se_X2_frontBox : Cond.selects RX2 yX2_frontBox yX2_frontBox ∈ tb := inT 1118 (by decide +kernel)
theorem ml_RX2_131 : Cond.methodLink RX2 131 yX2_boxAt ∈ tb := inT 1120 (by decide +kernel)
theorem ml_RX2_135 : Cond.methodLink RX2 135 yX2_inRow ∈ tb := inT 1121 (by decide +kernel)
theorem ml_RX2_138 : Cond.methodLink RX2 138 yX2_column ∈ tb := inT 1122 (by decide +kernel)
theorem ml_RX7_165 : Cond.methodLink RX7 165 yX6_has ∈ tb := inT 1123 (by decide +kernel)
theorem ml_RL_165 : Cond.methodLink RL 165 yL_shown ∈ tb := inT 1124 (by decide +kernel)
theorem sm_L_shown : Cond.static yL_shown ∈ tb := inT 1125 (by decide +kernel)
theorem ml_RL_69 : Cond.methodLink RL 69 yX9_shown ∈ tb := inT 1127 (by decide +kernel)
theorem im_X9_shown : Cond.instanceMethod yX9_shown ∈ tb := inT 1128 (by decide +kernel)
theorem se_X9_shown : Cond.selects RX9 yX9_shown yX9_shown ∈ tb := inT 1129 (by decide +kernel)
theorem ml_RX9_168 : Cond.methodLink RX9 168 yX2_frontBox ∈ tb := inT 1131 (by decide +kernel)
theorem ml_RL_168 : Cond.methodLink RL 168 yL_ghost ∈ tb := inT 1132 (by decide +kernel)
theorem sm_L_ghost : Cond.static yL_ghost ∈ tb := inT 1133 (by decide +kernel)
theorem ml_RL_72 : Cond.methodLink RL 72 yX9_ghost ∈ tb := inT 1135 (by decide +kernel)
theorem im_X9_ghost : Cond.instanceMethod yX9_ghost ∈ tb := inT 1136 (by decide +kernel)
theorem se_X9_ghost : Cond.selects RX9 yX9_ghost yX9_ghost ∈ tb := inT 1137 (by decide +kernel)
theorem ml_RX9_171 : Cond.methodLink RX9 171 yX7_ghostAt ∈ tb := inT 1139 (by decide +kernel)
theorem im_X7_ghostAt : Cond.instanceMethod yX7_ghostAt ∈ tb := inT 1140 (by decide +kernel)
theorem se_X7_ghostAt : Cond.selects RX7 yX7_ghostAt yX7_ghostAt ∈ tb := inT 1141 (by decide +kernel)
theorem ml_RX7_171 : Cond.methodLink RX7 171 yX7_shadeAt ∈ tb := inT 1143 (by decide +kernel)
theorem ml_RX7_174 : Cond.methodLink RX7 174 yX7_ghostOf ∈ tb := inT 1144 (by decide +kernel)
theorem im_X7_ghostOf : Cond.instanceMethod yX7_ghostOf ∈ tb := inT 1146 (by decide +kernel)
theorem ml_RX7_178 : Cond.methodLink RX7 178 yJ9_abs_0f7a4 ∈ tb := inT 1148 (by decide +kernel)
theorem sm_J9_abs_0f7a4 : Cond.static yJ9_abs_0f7a4 ∈ tb := inT 1149 (by decide +kernel)
theorem ml_RL_171 : Cond.methodLink RL 171 yL_ghosts ∈ tb := inT 1151 (by decide +kernel)
theorem sm_L_ghosts : Cond.static yL_ghosts ∈ tb := inT 1152 (by decide +kernel)
theorem ml_RL_75 : Cond.methodLink RL 75 yX9_ghosts ∈ tb := inT 1154 (by decide +kernel)
theorem im_X9_ghosts : Cond.instanceMethod yX9_ghosts ∈ tb := inT 1155 (by decide +kernel)
theorem se_X9_ghosts : Cond.selects RX9 yX9_ghosts yX9_ghosts ∈ tb := inT 1156 (by decide +kernel)
theorem ml_RX9_174 : Cond.methodLink RX9 174 yX7_countGhosts ∈ tb := inT 1158 (by decide +kernel)
theorem im_X7_countGhosts : Cond.instanceMethod yX7_countGhosts ∈ tb := inT 1159 (by decide +kernel)
theorem se_X7_countGhosts : Cond.selects RX7 yX7_countGhosts yX7_countGhosts ∈ tb := inT 1160 (by decide +kernel)
theorem ml_RX7_187 : Cond.methodLink RX7 187 yX7_countInHeldRow ∈ tb := inT 1162 (by decide +kernel)
theorem im_X7_countInHeldRow : Cond.instanceMethod yX7_countInHeldRow ∈ tb := inT 1164 (by decide +kernel)
theorem ml_RL_174 : Cond.methodLink RL 174 yL_meanGhost ∈ tb := inT 1166 (by decide +kernel)
theorem sm_L_meanGhost : Cond.static yL_meanGhost ∈ tb := inT 1167 (by decide +kernel)
theorem ml_RL_78 : Cond.methodLink RL 78 yX9_meanGhost ∈ tb := inT 1169 (by decide +kernel)
theorem im_X9_meanGhost : Cond.instanceMethod yX9_meanGhost ∈ tb := inT 1170 (by decide +kernel)
theorem se_X9_meanGhost : Cond.selects RX9 yX9_meanGhost yX9_meanGhost ∈ tb := inT 1171 (by decide +kernel)
theorem ml_RX9_177 : Cond.methodLink RX9 177 yX7_sumOfGhosts ∈ tb := inT 1173 (by decide +kernel)
theorem im_X7_sumOfGhosts : Cond.instanceMethod yX7_sumOfGhosts ∈ tb := inT 1174 (by decide +kernel)
theorem se_X7_sumOfGhosts : Cond.selects RX7 yX7_sumOfGhosts yX7_sumOfGhosts ∈ tb := inT 1175 (by decide +kernel)
theorem ml_RL_178 : Cond.methodLink RL 178 yL_percentageFor ∈ tb := inT 1177 (by decide +kernel)
theorem sm_L_percentageFor : Cond.static yL_percentageFor ∈ tb := inT 1178 (by decide +kernel)
theorem ml_RL_82 : Cond.methodLink RL 82 yX9_percentageFor ∈ tb := inT 1180 (by decide +kernel)
theorem im_X9_percentageFor : Cond.instanceMethod yX9_percentageFor ∈ tb := inT 1181 (by decide +kernel)
theorem se_X9_percentageFor : Cond.selects RX9 yX9_percentageFor yX9_percentageFor ∈ tb := inT 1182 (by decide +kernel)
theorem ml_RX9_184 : Cond.methodLink RX9 184 yX9_faultOfBudget ∈ tb := inT 1184 (by decide +kernel)
theorem ml_RX9_187 : Cond.methodLink RX9 187 yX2_percentageWithin ∈ tb := inT 1185 (by decide +kernel)
theorem ml_RL_185 : Cond.methodLink RL 185 yL_fullAfter ∈ tb := inT 1186 (by decide +kernel)
theorem sm_L_fullAfter : Cond.static yL_fullAfter ∈ tb := inT 1187 (by decide +kernel)
theorem ml_RL_85 : Cond.methodLink RL 85 yX9_fullAfter ∈ tb := inT 1189 (by decide +kernel)
theorem im_X9_fullAfter : Cond.instanceMethod yX9_fullAfter ∈ tb := inT 1190 (by decide +kernel)
theorem se_X9_fullAfter : Cond.selects RX9 yX9_fullAfter yX9_fullAfter ∈ tb := inT 1191 (by decide +kernel)
theorem ml_RX9_194 : Cond.methodLink RX9 194 yX3_copyFrom ∈ tb := inT 1193 (by decide +kernel)
theorem ml_RX9_208 : Cond.methodLink RX9 208 yX2_fits ∈ tb := inT 1194 (by decide +kernel)
theorem ml_RX9_212 : Cond.methodLink RX9 212 yX3_passTick ∈ tb := inT 1195 (by decide +kernel)
theorem ml_RL_188 : Cond.methodLink RL 188 yL_ghostsWithout ∈ tb := inT 1196 (by decide +kernel)
theorem sm_L_ghostsWithout : Cond.static yL_ghostsWithout ∈ tb := inT 1197 (by decide +kernel)
theorem ml_RL_88 : Cond.methodLink RL 88 yX9_ghostsWithout ∈ tb := inT 1199 (by decide +kernel)
theorem im_X9_ghostsWithout : Cond.instanceMethod yX9_ghostsWithout ∈ tb := inT 1200 (by decide +kernel)
theorem se_X9_ghostsWithout : Cond.selects RX9 yX9_ghostsWithout yX9_ghostsWithout ∈ tb := inT 1201 (by decide +kernel)
theorem ml_RX9_215 : Cond.methodLink RX9 215 yX5_copyFrom ∈ tb := inT 1203 (by decide +kernel)
theorem ml_RL_191 : Cond.methodLink RL 191 yL_type ∈ tb := inT 1204 (by decide +kernel)
theorem sm_L_type : Cond.static yL_type ∈ tb := inT 1205 (by decide +kernel)
theorem ml_RL_91 : Cond.methodLink RL 91 yX9_type ∈ tb := inT 1207 (by decide +kernel)
theorem im_X9_type : Cond.instanceMethod yX9_type ∈ tb := inT 1208 (by decide +kernel)
theorem se_X9_type : Cond.selects RX9 yX9_type yX9_type ∈ tb := inT 1209 (by decide +kernel)
theorem ml_RX9_224 : Cond.methodLink RX9 224 yX4_append ∈ tb := inT 1211 (by decide +kernel)
theorem im_X4_append : Cond.instanceMethod yX4_append ∈ tb := inT 1212 (by decide +kernel)
theorem se_X4_append : Cond.selects RX4 yX4_append yX4_append ∈ tb := inT 1213 (by decide +kernel)
theorem ml_RL_202 : Cond.methodLink RL 202 yL_undo ∈ tb := inT 1215 (by decide +kernel)
theorem sm_L_undo : Cond.static yL_undo ∈ tb := inT 1216 (by decide +kernel)
theorem ml_RL_94 : Cond.methodLink RL 94 yX9_undo ∈ tb := inT 1218 (by decide +kernel)
theorem im_X9_undo : Cond.instanceMethod yX9_undo ∈ tb := inT 1219 (by decide +kernel)
theorem se_X9_undo : Cond.selects RX9 yX9_undo yX9_undo ∈ tb := inT 1220 (by decide +kernel)
theorem ml_RX9_236 : Cond.methodLink RX9 236 yX1_restore ∈ tb := inT 1222 (by decide +kernel)
theorem im_X1_restore : Cond.instanceMethod yX1_restore ∈ tb := inT 1223 (by decide +kernel)
theorem se_X1_restore : Cond.selects RX1 yX1_restore yX1_restore ∈ tb := inT 1224 (by decide +kernel)
theorem cl_RL_99 : Cond.classLink RL 99 RX10 ∈ tb := inT 1226 (by decide +kernel)
theorem it_RX10 : Cond.instantiable RX10 24 ∈ tb := inT 1227 (by decide +kernel)
theorem ml_RL_101 : Cond.methodLink RL 101 yX10_init ∈ tb := inT 1228 (by decide +kernel)
theorem im_X10_init : Cond.instanceMethod yX10_init ∈ tb := inT 1229 (by decide +kernel)
theorem ml_RX10_1 : Cond.methodLink RX10 1 objectInit ∈ tb := inT 1231 (by decide +kernel)
theorem ml_RX10_43 : Cond.methodLink RX10 43 yX10_anew ∈ tb := inT 1232 (by decide +kernel)
theorem im_X10_anew : Cond.instanceMethod yX10_anew ∈ tb := inT 1234 (by decide +kernel)
theorem fl_RX10_7 : Cond.fieldLink RX10 7 RX10 "m" "[I" ∈ tb := inT 1236 (by decide +kernel)
theorem fl_RX10_13 : Cond.fieldLink RX10 13 RX10 "spare" "[I" ∈ tb := inT 1237 (by decide +kernel)
theorem fl_RX10_16 : Cond.fieldLink RX10 16 RX10 "saved" "[I" ∈ tb := inT 1238 (by decide +kernel)
theorem fl_RX10_51 : Cond.fieldLink RX10 51 RX10 "savedCount" "I" ∈ tb := inT 1239 (by decide +kernel)
theorem fl_RX10_19 : Cond.fieldLink RX10 19 RX10 "text" "[I" ∈ tb := inT 1240 (by decide +kernel)
theorem fl_RX10_273 : Cond.fieldLink RX10 273 RX10 "textLength" "I" ∈ tb := inT 1241 (by decide +kernel)
theorem fl_RX10_47 : Cond.fieldLink RX10 47 RX10 "code" "I" ∈ tb := inT 1242 (by decide +kernel)
theorem fl_RX10_22 : Cond.fieldLink RX10 22 RX10 "newNumbers" "[I" ∈ tb := inT 1243 (by decide +kernel)
theorem fl_RX10_25 : Cond.fieldLink RX10 25 RX10 "x" "[I" ∈ tb := inT 1244 (by decide +kernel)
theorem fl_RX10_28 : Cond.fieldLink RX10 28 RX10 "y" "[I" ∈ tb := inT 1245 (by decide +kernel)
theorem fl_RX10_31 : Cond.fieldLink RX10 31 RX10 "z" "[I" ∈ tb := inT 1246 (by decide +kernel)
theorem fl_RX10_34 : Cond.fieldLink RX10 34 RX10 "shift" "[I" ∈ tb := inT 1247 (by decide +kernel)
theorem fl_RX10_216 : Cond.fieldLink RX10 216 RX10 "percentage" "I" ∈ tb := inT 1248 (by decide +kernel)
theorem fl_RX10_37 : Cond.fieldLink RX10 37 RX10 "order" "[I" ∈ tb := inT 1249 (by decide +kernel)
theorem fl_RX10_163 : Cond.fieldLink RX10 163 RX10 "boxes" "I" ∈ tb := inT 1250 (by decide +kernel)
theorem fl_RX10_190 : Cond.fieldLink RX10 190 RX10 "maskLeft" "I" ∈ tb := inT 1251 (by decide +kernel)
theorem fl_RX10_193 : Cond.fieldLink RX10 193 RX10 "maskRight" "I" ∈ tb := inT 1252 (by decide +kernel)
theorem fl_RX10_196 : Cond.fieldLink RX10 196 RX10 "isShown" "Z" ∈ tb := inT 1253 (by decide +kernel)
theorem fl_RX10_204 : Cond.fieldLink RX10 204 RX10 "titleRow" "I" ∈ tb := inT 1254 (by decide +kernel)
theorem fl_RX10_207 : Cond.fieldLink RX10 207 RX10 "titleShift" "I" ∈ tb := inT 1255 (by decide +kernel)
theorem fl_RX10_276 : Cond.fieldLink RX10 276 RX10 "place" "I" ∈ tb := inT 1256 (by decide +kernel)
theorem fl_RX10_310 : Cond.fieldLink RX10 310 RX10 "command" "I" ∈ tb := inT 1257 (by decide +kernel)
theorem fl_RX10_40 : Cond.fieldLink RX10 40 RX10 "numbers" "[I" ∈ tb := inT 1258 (by decide +kernel)
theorem fl_RX10_340 : Cond.fieldLink RX10 340 RX10 "hash" "J" ∈ tb := inT 1259 (by decide +kernel)
theorem ml_RL_108 : Cond.methodLink RL 108 yX10_thrown ∈ tb := inT 1309 (by decide +kernel)
theorem im_X10_thrown : Cond.instanceMethod yX10_thrown ∈ tb := inT 1310 (by decide +kernel)
theorem se_X10_thrown : Cond.selects RX10 yX10_thrown yX10_thrown ∈ tb := inT 1311 (by decide +kernel)
theorem ml_RL_107 : Cond.methodLink RL 107 yX10_begin ∈ tb := inT 1313 (by decide +kernel)
theorem im_X10_begin : Cond.instanceMethod yX10_begin ∈ tb := inT 1314 (by decide +kernel)
theorem se_X10_begin : Cond.selects RX10 yX10_begin yX10_begin ∈ tb := inT 1315 (by decide +kernel)
theorem ml_RX10_66 : Cond.methodLink RX10 66 yX10_notBegin ∈ tb := inT 1317 (by decide +kernel)
theorem sm_X10_notBegin : Cond.static yX10_notBegin ∈ tb := inT 1318 (by decide +kernel)
theorem ml_RX10_58 : Cond.methodLink RX10 58 yX10_in ∈ tb := inT 1320 (by decide +kernel)
theorem sm_X10_in : Cond.static yX10_in ∈ tb := inT 1321 (by decide +kernel)
theorem ml_RX10_69 : Cond.methodLink RX10 69 yX10_keep ∈ tb := inT 1323 (by decide +kernel)
theorem im_X10_keep : Cond.instanceMethod yX10_keep ∈ tb := inT 1325 (by decide +kernel)
theorem ml_RX10_54 : Cond.methodLink RX10 54 yX10_bring ∈ tb := inT 1327 (by decide +kernel)
theorem sm_X10_bring : Cond.static yX10_bring ∈ tb := inT 1328 (by decide +kernel)
theorem ml_RX10_72 : Cond.methodLink RX10 72 yX10_begins ∈ tb := inT 1330 (by decide +kernel)
theorem im_X10_begins : Cond.instanceMethod yX10_begins ∈ tb := inT 1332 (by decide +kernel)
theorem ml_RL_114 : Cond.methodLink RL 114 yX10_addGroup ∈ tb := inT 1334 (by decide +kernel)
theorem im_X10_addGroup : Cond.instanceMethod yX10_addGroup ∈ tb := inT 1335 (by decide +kernel)
theorem se_X10_addGroup : Cond.selects RX10 yX10_addGroup yX10_addGroup ∈ tb := inT 1336 (by decide +kernel)
theorem ml_RX10_89 : Cond.methodLink RX10 89 yX10_notAdd ∈ tb := inT 1338 (by decide +kernel)
theorem im_X10_notAdd : Cond.instanceMethod yX10_notAdd ∈ tb := inT 1340 (by decide +kernel)
theorem ml_RX10_75 : Cond.methodLink RX10 75 yX10_isNode ∈ tb := inT 1342 (by decide +kernel)
theorem im_X10_isNode : Cond.instanceMethod yX10_isNode ∈ tb := inT 1344 (by decide +kernel)
theorem ml_RX10_79 : Cond.methodLink RX10 79 yX10_isBox ∈ tb := inT 1346 (by decide +kernel)
theorem im_X10_isBox : Cond.instanceMethod yX10_isBox ∈ tb := inT 1348 (by decide +kernel)
theorem ml_RX10_62 : Cond.methodLink RX10 62 yX10_of ∈ tb := inT 1350 (by decide +kernel)
theorem im_X10_of : Cond.instanceMethod yX10_of ∈ tb := inT 1352 (by decide +kernel)
theorem ml_RX10_82 : Cond.methodLink RX10 82 yX10_isFar ∈ tb := inT 1354 (by decide +kernel)
theorem sm_X10_isFar : Cond.static yX10_isFar ∈ tb := inT 1355 (by decide +kernel)
theorem ml_RX10_85 : Cond.methodLink RX10 85 yX10_groupsAround ∈ tb := inT 1357 (by decide +kernel)
theorem im_X10_groupsAround : Cond.instanceMethod yX10_groupsAround ∈ tb := inT 1359 (by decide +kernel)
theorem ml_RX10_93 : Cond.methodLink RX10 93 yX10_adds ∈ tb := inT 1361 (by decide +kernel)
theorem im_X10_adds : Cond.instanceMethod yX10_adds ∈ tb := inT 1363 (by decide +kernel)
theorem ml_RL_118 : Cond.methodLink RL 118 yX10_addBox ∈ tb := inT 1365 (by decide +kernel)
theorem im_X10_addBox : Cond.instanceMethod yX10_addBox ∈ tb := inT 1366 (by decide +kernel)
theorem se_X10_addBox : Cond.selects RX10 yX10_addBox yX10_addBox ∈ tb := inT 1367 (by decide +kernel)
theorem ml_RX10_97 : Cond.methodLink RX10 97 yX10_notBox ∈ tb := inT 1369 (by decide +kernel)
theorem im_X10_notBox : Cond.instanceMethod yX10_notBox ∈ tb := inT 1371 (by decide +kernel)
theorem ml_RL_121 : Cond.methodLink RL 121 yX10_move ∈ tb := inT 1373 (by decide +kernel)
theorem im_X10_move : Cond.instanceMethod yX10_move ∈ tb := inT 1374 (by decide +kernel)
theorem se_X10_move : Cond.selects RX10 yX10_move yX10_move ∈ tb := inT 1375 (by decide +kernel)
theorem ml_RX10_100 : Cond.methodLink RX10 100 yX10_notMove ∈ tb := inT 1377 (by decide +kernel)
theorem im_X10_notMove : Cond.instanceMethod yX10_notMove ∈ tb := inT 1379 (by decide +kernel)
theorem ml_RX10_103 : Cond.methodLink RX10 103 yX10_moves ∈ tb := inT 1381 (by decide +kernel)
theorem im_X10_moves : Cond.instanceMethod yX10_moves ∈ tb := inT 1383 (by decide +kernel)
theorem ml_RL_124 : Cond.methodLink RL 124 yX10_setShade ∈ tb := inT 1385 (by decide +kernel)
theorem im_X10_setShade : Cond.instanceMethod yX10_setShade ∈ tb := inT 1386 (by decide +kernel)
theorem se_X10_setShade : Cond.selects RX10 yX10_setShade yX10_setShade ∈ tb := inT 1387 (by decide +kernel)
theorem ml_RL_128 : Cond.methodLink RL 128 yX10_removeNode ∈ tb := inT 1389 (by decide +kernel)
theorem im_X10_removeNode : Cond.instanceMethod yX10_removeNode ∈ tb := inT 1390 (by decide +kernel)
theorem se_X10_removeNode : Cond.selects RX10 yX10_removeNode yX10_removeNode ∈ tb := inT 1391 (by decide +kernel)
theorem ml_RX10_110 : Cond.methodLink RX10 110 yX10_notRemove ∈ tb := inT 1393 (by decide +kernel)
theorem im_X10_notRemove : Cond.instanceMethod yX10_notRemove ∈ tb := inT 1395 (by decide +kernel)
theorem ml_RX10_113 : Cond.methodLink RX10 113 yX10_removes ∈ tb := inT 1397 (by decide +kernel)
theorem im_X10_removes : Cond.instanceMethod yX10_removes ∈ tb := inT 1399 (by decide +kernel)
theorem ml_RX10_106 : Cond.methodLink RX10 106 yX10_isWithin ∈ tb := inT 1401 (by decide +kernel)
theorem im_X10_isWithin : Cond.instanceMethod yX10_isWithin ∈ tb := inT 1403 (by decide +kernel)
theorem ml_RL_132 : Cond.methodLink RL 132 yX10_addScene ∈ tb := inT 1405 (by decide +kernel)
theorem im_X10_addScene : Cond.instanceMethod yX10_addScene ∈ tb := inT 1406 (by decide +kernel)
theorem se_X10_addScene : Cond.selects RX10 yX10_addScene yX10_addScene ∈ tb := inT 1407 (by decide +kernel)
theorem ml_RX10_116 : Cond.methodLink RX10 116 yX10_notScene ∈ tb := inT 1409 (by decide +kernel)
theorem im_X10_notScene : Cond.instanceMethod yX10_notScene ∈ tb := inT 1411 (by decide +kernel)
theorem ml_RX10_120 : Cond.methodLink RX10 120 yX10_addsScene ∈ tb := inT 1413 (by decide +kernel)
theorem im_X10_addsScene : Cond.instanceMethod yX10_addsScene ∈ tb := inT 1415 (by decide +kernel)
theorem ml_RL_135 : Cond.methodLink RL 135 yX10_set ∈ tb := inT 1417 (by decide +kernel)
theorem im_X10_set : Cond.instanceMethod yX10_set ∈ tb := inT 1418 (by decide +kernel)
theorem se_X10_set : Cond.selects RX10 yX10_set yX10_set ∈ tb := inT 1419 (by decide +kernel)
theorem ml_RX10_123 : Cond.methodLink RX10 123 yX10_notSet ∈ tb := inT 1421 (by decide +kernel)
theorem sm_X10_notSet : Cond.static yX10_notSet ∈ tb := inT 1422 (by decide +kernel)
theorem ml_RX10_126 : Cond.methodLink RX10 126 yX10_sets ∈ tb := inT 1424 (by decide +kernel)
theorem im_X10_sets : Cond.instanceMethod yX10_sets ∈ tb := inT 1426 (by decide +kernel)
theorem ml_RL_138 : Cond.methodLink RL 138 yX10_setTitle ∈ tb := inT 1428 (by decide +kernel)
theorem im_X10_setTitle : Cond.instanceMethod yX10_setTitle ∈ tb := inT 1429 (by decide +kernel)
theorem se_X10_setTitle : Cond.selects RX10 yX10_setTitle yX10_setTitle ∈ tb := inT 1430 (by decide +kernel)
theorem ml_RX10_129 : Cond.methodLink RX10 129 yX10_notTitle ∈ tb := inT 1432 (by decide +kernel)
theorem im_X10_notTitle : Cond.instanceMethod yX10_notTitle ∈ tb := inT 1434 (by decide +kernel)
theorem ml_RX10_132 : Cond.methodLink RX10 132 yX10_setsTitle ∈ tb := inT 1436 (by decide +kernel)
theorem im_X10_setsTitle : Cond.instanceMethod yX10_setsTitle ∈ tb := inT 1438 (by decide +kernel)
theorem ml_RL_142 : Cond.methodLink RL 142 yX10_clearTitle ∈ tb := inT 1440 (by decide +kernel)
theorem im_X10_clearTitle : Cond.instanceMethod yX10_clearTitle ∈ tb := inT 1441 (by decide +kernel)
theorem se_X10_clearTitle : Cond.selects RX10 yX10_clearTitle yX10_clearTitle ∈ tb := inT 1442 (by decide +kernel)
theorem ml_RL_145 : Cond.methodLink RL 145 yX10_tick ∈ tb := inT 1444 (by decide +kernel)
theorem im_X10_tick : Cond.instanceMethod yX10_tick ∈ tb := inT 1445 (by decide +kernel)
theorem se_X10_tick : Cond.selects RX10 yX10_tick yX10_tick ∈ tb := inT 1446 (by decide +kernel)
theorem ml_RX10_145 : Cond.methodLink RX10 145 yX10_notTick ∈ tb := inT 1448 (by decide +kernel)
theorem sm_X10_notTick : Cond.static yX10_notTick ∈ tb := inT 1449 (by decide +kernel)
theorem ml_RX10_148 : Cond.methodLink RX10 148 yX10_ticksOn ∈ tb := inT 1451 (by decide +kernel)
theorem im_X10_ticksOn : Cond.instanceMethod yX10_ticksOn ∈ tb := inT 1453 (by decide +kernel)
theorem ml_RX10_142 : Cond.methodLink RX10 142 yX10_tickOnce ∈ tb := inT 1455 (by decide +kernel)
theorem im_X10_tickOnce : Cond.instanceMethod yX10_tickOnce ∈ tb := inT 1457 (by decide +kernel)
theorem ml_RX10_135 : Cond.methodLink RX10 135 yX10_sceneNow ∈ tb := inT 1459 (by decide +kernel)
theorem im_X10_sceneNow : Cond.instanceMethod yX10_sceneNow ∈ tb := inT 1461 (by decide +kernel)
theorem ml_RX10_139 : Cond.methodLink RX10 139 yX10_towards ∈ tb := inT 1463 (by decide +kernel)
theorem sm_X10_towards : Cond.static yX10_towards ∈ tb := inT 1464 (by decide +kernel)
theorem ml_RL_148 : Cond.methodLink RL 148 yX10_node ∈ tb := inT 1466 (by decide +kernel)
theorem im_X10_node : Cond.instanceMethod yX10_node ∈ tb := inT 1467 (by decide +kernel)
theorem se_X10_node : Cond.selects RX10 yX10_node yX10_node ∈ tb := inT 1468 (by decide +kernel)
theorem ml_RX10_235 : Cond.methodLink RX10 235 yX10_survey ∈ tb := inT 1470 (by decide +kernel)
theorem im_X10_survey : Cond.instanceMethod yX10_survey ∈ tb := inT 1472 (by decide +kernel)
theorem ml_RX10_210 : Cond.methodLink RX10 210 yX10_places ∈ tb := inT 1474 (by decide +kernel)
theorem im_X10_places : Cond.instanceMethod yX10_places ∈ tb := inT 1476 (by decide +kernel)
theorem ml_RX10_160 : Cond.methodLink RX10 160 yX10_sumOf ∈ tb := inT 1478 (by decide +kernel)
theorem im_X10_sumOf : Cond.instanceMethod yX10_sumOf ∈ tb := inT 1480 (by decide +kernel)
theorem ml_RX10_213 : Cond.methodLink RX10 213 yX10_percentageBy ∈ tb := inT 1482 (by decide +kernel)
theorem im_X10_percentageBy : Cond.instanceMethod yX10_percentageBy ∈ tb := inT 1484 (by decide +kernel)
theorem ml_RX10_157 : Cond.methodLink RX10 157 yX10_fits ∈ tb := inT 1486 (by decide +kernel)
theorem im_X10_fits : Cond.instanceMethod yX10_fits ∈ tb := inT 1488 (by decide +kernel)
theorem ml_RX10_154 : Cond.methodLink RX10 154 yX10_raw ∈ tb := inT 1490 (by decide +kernel)
theorem im_X10_raw : Cond.instanceMethod yX10_raw ∈ tb := inT 1492 (by decide +kernel)
theorem ml_RX10_151 : Cond.methodLink RX10 151 yX10_floor ∈ tb := inT 1494 (by decide +kernel)
theorem sm_X10_floor : Cond.static yX10_floor ∈ tb := inT 1495 (by decide +kernel)
theorem ml_RX10_219 : Cond.methodLink RX10 219 yX10_sort ∈ tb := inT 1497 (by decide +kernel)
theorem im_X10_sort : Cond.instanceMethod yX10_sort ∈ tb := inT 1499 (by decide +kernel)
theorem ml_RX10_222 : Cond.methodLink RX10 222 yX10_mask ∈ tb := inT 1501 (by decide +kernel)
theorem im_X10_mask : Cond.instanceMethod yX10_mask ∈ tb := inT 1503 (by decide +kernel)
theorem ml_RX10_184 : Cond.methodLink RX10 184 yX10_isCut ∈ tb := inT 1505 (by decide +kernel)
theorem im_X10_isCut : Cond.instanceMethod yX10_isCut ∈ tb := inT 1507 (by decide +kernel)
theorem ml_RX10_177 : Cond.methodLink RX10 177 yX10_isCutLeft ∈ tb := inT 1509 (by decide +kernel)
theorem im_X10_isCutLeft : Cond.instanceMethod yX10_isCutLeft ∈ tb := inT 1511 (by decide +kernel)
theorem ml_RX10_170 : Cond.methodLink RX10 170 yX10_columnOf ∈ tb := inT 1513 (by decide +kernel)
theorem im_X10_columnOf : Cond.instanceMethod yX10_columnOf ∈ tb := inT 1515 (by decide +kernel)
theorem ml_RX10_166 : Cond.methodLink RX10 166 yX10_column ∈ tb := inT 1517 (by decide +kernel)
theorem sm_X10_column : Cond.static yX10_column ∈ tb := inT 1518 (by decide +kernel)
theorem ml_RX10_174 : Cond.methodLink RX10 174 yX10_isInRows ∈ tb := inT 1520 (by decide +kernel)
theorem im_X10_isInRows : Cond.instanceMethod yX10_isInRows ∈ tb := inT 1522 (by decide +kernel)
theorem ml_RX10_181 : Cond.methodLink RX10 181 yX10_isCutRight ∈ tb := inT 1524 (by decide +kernel)
theorem im_X10_isCutRight : Cond.instanceMethod yX10_isCutRight ∈ tb := inT 1526 (by decide +kernel)
theorem ml_RX10_187 : Cond.methodLink RX10 187 yX10_greater ∈ tb := inT 1528 (by decide +kernel)
theorem sm_X10_greater : Cond.static yX10_greater ∈ tb := inT 1529 (by decide +kernel)
theorem ml_RX10_226 : Cond.methodLink RX10 226 yX10_findTitle ∈ tb := inT 1531 (by decide +kernel)
theorem im_X10_findTitle : Cond.instanceMethod yX10_findTitle ∈ tb := inT 1533 (by decide +kernel)
theorem ml_RX10_200 : Cond.methodLink RX10 200 yX10_isClear ∈ tb := inT 1535 (by decide +kernel)
theorem im_X10_isClear : Cond.instanceMethod yX10_isClear ∈ tb := inT 1537 (by decide +kernel)
theorem ml_RX10_238 : Cond.methodLink RX10 238 yX10_nodeOf ∈ tb := inT 1539 (by decide +kernel)
theorem im_X10_nodeOf : Cond.instanceMethod yX10_nodeOf ∈ tb := inT 1541 (by decide +kernel)
theorem ml_RX10_229 : Cond.methodLink RX10 229 yX10_inside ∈ tb := inT 1543 (by decide +kernel)
theorem im_X10_inside : Cond.instanceMethod yX10_inside ∈ tb := inT 1545 (by decide +kernel)
theorem ml_RX10_232 : Cond.methodLink RX10 232 yX10_boxOf ∈ tb := inT 1547 (by decide +kernel)
theorem im_X10_boxOf : Cond.instanceMethod yX10_boxOf ∈ tb := inT 1549 (by decide +kernel)
theorem ml_RL_151 : Cond.methodLink RL 151 yX10_painted ∈ tb := inT 1551 (by decide +kernel)
theorem im_X10_painted : Cond.instanceMethod yX10_painted ∈ tb := inT 1552 (by decide +kernel)
theorem se_X10_painted : Cond.selects RX10 yX10_painted yX10_painted ∈ tb := inT 1553 (by decide +kernel)
theorem ml_RL_154 : Cond.methodLink RL 154 yX10_scene ∈ tb := inT 1555 (by decide +kernel)
theorem im_X10_scene : Cond.instanceMethod yX10_scene ∈ tb := inT 1556 (by decide +kernel)
theorem se_X10_scene : Cond.selects RX10 yX10_scene yX10_scene ∈ tb := inT 1557 (by decide +kernel)
theorem ml_RX10_241 : Cond.methodLink RX10 241 yX10_sceneOf ∈ tb := inT 1559 (by decide +kernel)
theorem im_X10_sceneOf : Cond.instanceMethod yX10_sceneOf ∈ tb := inT 1561 (by decide +kernel)
theorem ml_RL_157 : Cond.methodLink RL 157 yX10_title ∈ tb := inT 1563 (by decide +kernel)
theorem im_X10_title : Cond.instanceMethod yX10_title ∈ tb := inT 1564 (by decide +kernel)
theorem se_X10_title : Cond.selects RX10 yX10_title yX10_title ∈ tb := inT 1565 (by decide +kernel)
theorem ml_RX10_244 : Cond.methodLink RX10 244 yX10_titleOf ∈ tb := inT 1567 (by decide +kernel)
theorem im_X10_titleOf : Cond.instanceMethod yX10_titleOf ∈ tb := inT 1569 (by decide +kernel)
theorem ml_RL_160 : Cond.methodLink RL 160 yX10_whole ∈ tb := inT 1571 (by decide +kernel)
theorem im_X10_whole : Cond.instanceMethod yX10_whole ∈ tb := inT 1572 (by decide +kernel)
theorem se_X10_whole : Cond.selects RX10 yX10_whole yX10_whole ∈ tb := inT 1573 (by decide +kernel)
theorem ml_RX10_247 : Cond.methodLink RX10 247 yX10_wholeOf ∈ tb := inT 1575 (by decide +kernel)
theorem im_X10_wholeOf : Cond.instanceMethod yX10_wholeOf ∈ tb := inT 1577 (by decide +kernel)
theorem ml_RL_164 : Cond.methodLink RL 164 yX10_shade ∈ tb := inT 1579 (by decide +kernel)
theorem im_X10_shade : Cond.instanceMethod yX10_shade ∈ tb := inT 1580 (by decide +kernel)
theorem se_X10_shade : Cond.selects RX10 yX10_shade yX10_shade ∈ tb := inT 1581 (by decide +kernel)
theorem ml_RX10_258 : Cond.methodLink RX10 258 yX10_isCell ∈ tb := inT 1583 (by decide +kernel)
theorem im_X10_isCell : Cond.instanceMethod yX10_isCell ∈ tb := inT 1585 (by decide +kernel)
theorem ml_RX10_261 : Cond.methodLink RX10 261 yX10_shadeOf ∈ tb := inT 1587 (by decide +kernel)
theorem im_X10_shadeOf : Cond.instanceMethod yX10_shadeOf ∈ tb := inT 1589 (by decide +kernel)
theorem ml_RX10_250 : Cond.methodLink RX10 250 yX10_top ∈ tb := inT 1591 (by decide +kernel)
theorem im_X10_top : Cond.instanceMethod yX10_top ∈ tb := inT 1593 (by decide +kernel)
theorem ml_RX10_254 : Cond.methodLink RX10 254 yX10_isTitle ∈ tb := inT 1595 (by decide +kernel)
theorem im_X10_isTitle : Cond.instanceMethod yX10_isTitle ∈ tb := inT 1597 (by decide +kernel)
theorem ml_RL_167 : Cond.methodLink RL 167 yX10_shown ∈ tb := inT 1599 (by decide +kernel)
theorem im_X10_shown : Cond.instanceMethod yX10_shown ∈ tb := inT 1600 (by decide +kernel)
theorem se_X10_shown : Cond.selects RX10 yX10_shown yX10_shown ∈ tb := inT 1601 (by decide +kernel)
theorem ml_RL_170 : Cond.methodLink RL 170 yX10_ghost ∈ tb := inT 1603 (by decide +kernel)
theorem im_X10_ghost : Cond.instanceMethod yX10_ghost ∈ tb := inT 1604 (by decide +kernel)
theorem se_X10_ghost : Cond.selects RX10 yX10_ghost yX10_ghost ∈ tb := inT 1605 (by decide +kernel)
theorem ml_RX10_264 : Cond.methodLink RX10 264 yX10_ghostOf ∈ tb := inT 1607 (by decide +kernel)
theorem im_X10_ghostOf : Cond.instanceMethod yX10_ghostOf ∈ tb := inT 1609 (by decide +kernel)
theorem ml_RL_173 : Cond.methodLink RL 173 yX10_ghosts ∈ tb := inT 1611 (by decide +kernel)
theorem im_X10_ghosts : Cond.instanceMethod yX10_ghosts ∈ tb := inT 1612 (by decide +kernel)
theorem se_X10_ghosts : Cond.selects RX10 yX10_ghosts yX10_ghosts ∈ tb := inT 1613 (by decide +kernel)
theorem ml_RX10_267 : Cond.methodLink RX10 267 yX10_ghostsNow ∈ tb := inT 1615 (by decide +kernel)
theorem im_X10_ghostsNow : Cond.instanceMethod yX10_ghostsNow ∈ tb := inT 1617 (by decide +kernel)
theorem ml_RL_177 : Cond.methodLink RL 177 yX10_meanGhost ∈ tb := inT 1619 (by decide +kernel)
theorem im_X10_meanGhost : Cond.instanceMethod yX10_meanGhost ∈ tb := inT 1620 (by decide +kernel)
theorem se_X10_meanGhost : Cond.selects RX10 yX10_meanGhost yX10_meanGhost ∈ tb := inT 1621 (by decide +kernel)
theorem ml_RL_180 : Cond.methodLink RL 180 yX10_percentageFor ∈ tb := inT 1623 (by decide +kernel)
theorem im_X10_percentageFor : Cond.instanceMethod yX10_percentageFor ∈ tb := inT 1624 (by decide +kernel)
theorem se_X10_percentageFor : Cond.selects RX10 yX10_percentageFor yX10_percentageFor ∈ tb := inT 1625 (by decide +kernel)
theorem ml_RX10_270 : Cond.methodLink RX10 270 yX10_isBudget ∈ tb := inT 1627 (by decide +kernel)
theorem sm_X10_isBudget : Cond.static yX10_isBudget ∈ tb := inT 1628 (by decide +kernel)
theorem ml_RL_184 : Cond.methodLink RL 184 yX10_fittingGain ∈ tb := inT 1630 (by decide +kernel)
theorem im_X10_fittingGain : Cond.instanceMethod yX10_fittingGain ∈ tb := inT 1631 (by decide +kernel)
theorem se_X10_fittingGain : Cond.selects RX10 yX10_fittingGain yX10_fittingGain ∈ tb := inT 1632 (by decide +kernel)
theorem ml_RL_187 : Cond.methodLink RL 187 yX10_fullAfter ∈ tb := inT 1634 (by decide +kernel)
theorem im_X10_fullAfter : Cond.instanceMethod yX10_fullAfter ∈ tb := inT 1635 (by decide +kernel)
theorem se_X10_fullAfter : Cond.selects RX10 yX10_fullAfter yX10_fullAfter ∈ tb := inT 1636 (by decide +kernel)
theorem ml_RL_190 : Cond.methodLink RL 190 yX10_ghostsWithout ∈ tb := inT 1638 (by decide +kernel)
theorem im_X10_ghostsWithout : Cond.instanceMethod yX10_ghostsWithout ∈ tb := inT 1639 (by decide +kernel)
theorem se_X10_ghostsWithout : Cond.selects RX10 yX10_ghostsWithout yX10_ghostsWithout ∈ tb := inT 1640 (by decide +kernel)
theorem ml_RL_193 : Cond.methodLink RL 193 yX10_type ∈ tb := inT 1642 (by decide +kernel)
theorem im_X10_type : Cond.instanceMethod yX10_type ∈ tb := inT 1643 (by decide +kernel)
theorem se_X10_type : Cond.selects RX10 yX10_type yX10_type ∈ tb := inT 1644 (by decide +kernel)
theorem ml_RL_197 : Cond.methodLink RL 197 yX10_clearCommands ∈ tb := inT 1646 (by decide +kernel)
theorem im_X10_clearCommands : Cond.instanceMethod yX10_clearCommands ∈ tb := inT 1647 (by decide +kernel)
theorem se_X10_clearCommands : Cond.selects RX10 yX10_clearCommands yX10_clearCommands ∈ tb := inT 1648 (by decide +kernel)
theorem ml_RL_201 : Cond.methodLink RL 201 yX10_runCommands ∈ tb := inT 1650 (by decide +kernel)
theorem im_X10_runCommands : Cond.instanceMethod yX10_runCommands ∈ tb := inT 1651 (by decide +kernel)
theorem se_X10_runCommands : Cond.selects RX10 yX10_runCommands yX10_runCommands ∈ tb := inT 1652 (by decide +kernel)
theorem ml_RX10_329 : Cond.methodLink RX10 329 yX10_isGood ∈ tb := inT 1654 (by decide +kernel)
theorem im_X10_isGood : Cond.instanceMethod yX10_isGood ∈ tb := inT 1656 (by decide +kernel)
theorem ml_RX10_313 : Cond.methodLink RX10 313 yX10_skips ∈ tb := inT 1658 (by decide +kernel)
theorem im_X10_skips : Cond.instanceMethod yX10_skips ∈ tb := inT 1660 (by decide +kernel)
theorem ml_RX10_279 : Cond.methodLink RX10 279 yX10_here ∈ tb := inT 1662 (by decide +kernel)
theorem im_X10_here : Cond.instanceMethod yX10_here ∈ tb := inT 1664 (by decide +kernel)
theorem ml_RX10_326 : Cond.methodLink RX10 326 yX10_readCommand ∈ tb := inT 1666 (by decide +kernel)
theorem im_X10_readCommand : Cond.instanceMethod yX10_readCommand ∈ tb := inT 1668 (by decide +kernel)
theorem ml_RX10_317 : Cond.methodLink RX10 317 yX10_readWord ∈ tb := inT 1670 (by decide +kernel)
theorem im_X10_readWord : Cond.instanceMethod yX10_readWord ∈ tb := inT 1672 (by decide +kernel)
theorem kl_RX10_300 : Cond.constantLong RX10 300 (27 : Int64) ∈ tb := inT 1674 (by decide +kernel)
theorem kl_RX10_302 : Cond.constantLong RX10 302 (96 : Int64) ∈ tb := inT 1675 (by decide +kernel)
theorem kl_RX10_304 : Cond.constantLong RX10 304 (-1 : Int64) ∈ tb := inT 1676 (by decide +kernel)
theorem ml_RX10_306 : Cond.methodLink RX10 306 yX10_commandOf ∈ tb := inT 1677 (by decide +kernel)
theorem sm_X10_commandOf : Cond.static yX10_commandOf ∈ tb := inT 1678 (by decide +kernel)
theorem kl_RX10_282 : Cond.constantLong RX10 282 (3544025 : Int64) ∈ tb := inT 1680 (by decide +kernel)
theorem kl_RX10_284 : Cond.constantLong RX10 284 (4085899 : Int64) ∈ tb := inT 1681 (by decide +kernel)
theorem kl_RX10_286 : Cond.constantLong RX10 286 (1887 : Int64) ∈ tb := inT 1682 (by decide +kernel)
theorem kl_RX10_288 : Cond.constantLong RX10 288 (40187 : Int64) ∈ tb := inT 1683 (by decide +kernel)
theorem kl_RX10_290 : Cond.constantLong RX10 290 (10160456 : Int64) ∈ tb := inT 1684 (by decide +kernel)
theorem kl_RX10_292 : Cond.constantLong RX10 292 (14006 : Int64) ∈ tb := inT 1685 (by decide +kernel)
theorem kl_RX10_294 : Cond.constantLong RX10 294 (10820876 : Int64) ∈ tb := inT 1686 (by decide +kernel)
theorem kl_RX10_296 : Cond.constantLong RX10 296 (92275 : Int64) ∈ tb := inT 1687 (by decide +kernel)
theorem kl_RX10_298 : Cond.constantLong RX10 298 (400313 : Int64) ∈ tb := inT 1688 (by decide +kernel)
theorem ml_RX10_320 : Cond.methodLink RX10 320 yX10_manyFor ∈ tb := inT 1689 (by decide +kernel)
theorem im_X10_manyFor : Cond.instanceMethod yX10_manyFor ∈ tb := inT 1691 (by decide +kernel)
theorem ml_RX10_323 : Cond.methodLink RX10 323 yX10_readNumber ∈ tb := inT 1693 (by decide +kernel)
theorem im_X10_readNumber : Cond.instanceMethod yX10_readNumber ∈ tb := inT 1695 (by decide +kernel)
theorem ml_RX10_332 : Cond.methodLink RX10 332 yX10_whyNot ∈ tb := inT 1697 (by decide +kernel)
theorem im_X10_whyNot : Cond.instanceMethod yX10_whyNot ∈ tb := inT 1699 (by decide +kernel)
theorem ml_RX10_335 : Cond.methodLink RX10 335 yX10_carryOut ∈ tb := inT 1701 (by decide +kernel)
theorem im_X10_carryOut : Cond.instanceMethod yX10_carryOut ∈ tb := inT 1703 (by decide +kernel)
theorem ml_RL_205 : Cond.methodLink RL 205 yX10_undo ∈ tb := inT 1705 (by decide +kernel)
theorem im_X10_undo : Cond.instanceMethod yX10_undo ∈ tb := inT 1706 (by decide +kernel)
theorem se_X10_undo : Cond.selects RX10 yX10_undo yX10_undo ∈ tb := inT 1707 (by decide +kernel)
theorem ml_RL_210 : Cond.methodLink RL 210 yX10_digest ∈ tb := inT 1709 (by decide +kernel)
theorem im_X10_digest : Cond.instanceMethod yX10_digest ∈ tb := inT 1710 (by decide +kernel)
theorem se_X10_digest : Cond.selects RX10 yX10_digest yX10_digest ∈ tb := inT 1711 (by decide +kernel)
theorem kl_RX10_348 : Cond.constantLong RX10 348 (18767 : Int64) ∈ tb := inT 1713 (by decide +kernel)
theorem ml_RX10_344 : Cond.methodLink RX10 344 yX10_mix ∈ tb := inT 1714 (by decide +kernel)
theorem im_X10_mix : Cond.instanceMethod yX10_mix ∈ tb := inT 1716 (by decide +kernel)
theorem kl_RX10_338 : Cond.constantLong RX10 338 (31 : Int64) ∈ tb := inT 1718 (by decide +kernel)
theorem ml_RX10_350 : Cond.methodLink RX10 350 yX10_mixThings ∈ tb := inT 1719 (by decide +kernel)
theorem im_X10_mixThings : Cond.instanceMethod yX10_mixThings ∈ tb := inT 1721 (by decide +kernel)
theorem fl_RX4_60 : Cond.fieldLink RX4 60 RX8 "text" "Ljava/lang/String;" ∈ tb := inT 1726 (by decide +kernel)
theorem fl_RJ0_9 : Cond.fieldLink RJ0 9 RJ0 "value" "[B" ∈ tb := inT 1727 (by decide +kernel)
theorem fl_RJ0_15 : Cond.fieldLink RJ0 15 RJ0 "coder" "B" ∈ tb := inT 1728 (by decide +kernel)
theorem fl_RX4_48 : Cond.fieldLink RX4 48 RX8 "numbers" "I" ∈ tb := inT 1729 (by decide +kernel)
theorem fl_RJx29ce0_7 : Cond.fieldLink RJx29ce0 7 RJx29ce0 "ordinal" "I" ∈ tb := inT 1730 (by decide +kernel)
theorem se_X9_keepState : Cond.selects RX9 yX9_keepState yX9_keepState ∈ tb := inT 0 (by decide +kernel)
theorem se_X1_dropOldest : Cond.selects RX1 yX1_dropOldest yX1_dropOldest ∈ tb := inT 1 (by decide +kernel)
theorem se_X9_freshView : Cond.selects RX9 yX9_freshView yX9_freshView ∈ tb := inT 2 (by decide +kernel)
theorem se_X2_placeNodes : Cond.selects RX2 yX2_placeNodes yX2_placeNodes ∈ tb := inT 3 (by decide +kernel)
theorem se_X2_putInOrder : Cond.selects RX2 yX2_putInOrder yX2_putInOrder ∈ tb := inT 4 (by decide +kernel)
theorem se_X2_isNearer : Cond.selects RX2 yX2_isNearer yX2_isNearer ∈ tb := inT 5 (by decide +kernel)
theorem se_X7_windowShift : Cond.selects RX7 yX7_windowShift yX7_windowShift ∈ tb := inT 6 (by decide +kernel)
theorem se_X7_greatestCut : Cond.selects RX7 yX7_greatestCut yX7_greatestCut ∈ tb := inT 7 (by decide +kernel)
theorem se_X7_isCut : Cond.selects RX7 yX7_isCut yX7_isCut ∈ tb := inT 8 (by decide +kernel)
theorem se_X7_findTitle : Cond.selects RX7 yX7_findTitle yX7_findTitle ∈ tb := inT 9 (by decide +kernel)
theorem se_X7_titleCanStand : Cond.selects RX7 yX7_titleCanStand yX7_titleCanStand ∈ tb := inT 10 (by decide +kernel)
theorem se_X7_firstOpen : Cond.selects RX7 yX7_firstOpen yX7_firstOpen ∈ tb := inT 11 (by decide +kernel)
theorem se_X7_endOfOpen : Cond.selects RX7 yX7_endOfOpen yX7_endOfOpen ∈ tb := inT 12 (by decide +kernel)
theorem se_X4_skipSpaces : Cond.selects RX4 yX4_skipSpaces yX4_skipSpaces ∈ tb := inT 13 (by decide +kernel)
theorem se_X4_byteAt : Cond.selects RX4 yX4_byteAt yX4_byteAt ∈ tb := inT 14 (by decide +kernel)
theorem se_X4_readCommand : Cond.selects RX4 yX4_readCommand yX4_readCommand ∈ tb := inT 15 (by decide +kernel)
theorem se_X4_wordBetween : Cond.selects RX4 yX4_wordBetween yX4_wordBetween ∈ tb := inT 16 (by decide +kernel)
theorem se_X4_isWritten : Cond.selects RX4 yX4_isWritten yX4_isWritten ∈ tb := inT 17 (by decide +kernel)
theorem se_X4_readNumber : Cond.selects RX4 yX4_readNumber yX4_readNumber ∈ tb := inT 18 (by decide +kernel)
theorem se_X4_carryOut : Cond.selects RX4 yX4_carryOut yX4_carryOut ∈ tb := inT 19 (by decide +kernel)
theorem se_X4_faultOn : Cond.selects RX4 yX4_faultOn yX4_faultOn ∈ tb := inT 20 (by decide +kernel)
theorem se_X6_aroundChildOf : Cond.selects RX6 yX6_aroundChildOf yX6_aroundChildOf ∈ tb := inT 21 (by decide +kernel)
theorem se_X4_applyTo : Cond.selects RX4 yX4_applyTo yX4_applyTo ∈ tb := inT 22 (by decide +kernel)
theorem se_X6_shiftDown : Cond.selects RX6 yX6_shiftDown yX6_shiftDown ∈ tb := inT 23 (by decide +kernel)
theorem se_X7_titleColumn : Cond.selects RX7 yX7_titleColumn yX7_titleColumn ∈ tb := inT 24 (by decide +kernel)
theorem se_X7_holdRow : Cond.selects RX7 yX7_holdRow yX7_holdRow ∈ tb := inT 25 (by decide +kernel)
theorem se_X7_isLikeAbove : Cond.selects RX7 yX7_isLikeAbove yX7_isLikeAbove ∈ tb := inT 26 (by decide +kernel)
theorem se_X7_paintRow : Cond.selects RX7 yX7_paintRow yX7_paintRow ∈ tb := inT 27 (by decide +kernel)
theorem se_X7_fill : Cond.selects RX7 yX7_fill yX7_fill ∈ tb := inT 28 (by decide +kernel)
theorem se_X7_ghostOf : Cond.selects RX7 yX7_ghostOf yX7_ghostOf ∈ tb := inT 30 (by decide +kernel)
theorem se_X7_countInHeldRow : Cond.selects RX7 yX7_countInHeldRow yX7_countInHeldRow ∈ tb := inT 31 (by decide +kernel)
theorem se_X10_anew : Cond.selects RX10 yX10_anew yX10_anew ∈ tb := inT 32 (by decide +kernel)
theorem se_X10_keep : Cond.selects RX10 yX10_keep yX10_keep ∈ tb := inT 33 (by decide +kernel)
theorem se_X10_begins : Cond.selects RX10 yX10_begins yX10_begins ∈ tb := inT 34 (by decide +kernel)
theorem se_X10_notAdd : Cond.selects RX10 yX10_notAdd yX10_notAdd ∈ tb := inT 35 (by decide +kernel)
theorem se_X10_isNode : Cond.selects RX10 yX10_isNode yX10_isNode ∈ tb := inT 36 (by decide +kernel)
theorem se_X10_isBox : Cond.selects RX10 yX10_isBox yX10_isBox ∈ tb := inT 37 (by decide +kernel)
theorem se_X10_of : Cond.selects RX10 yX10_of yX10_of ∈ tb := inT 38 (by decide +kernel)
theorem se_X10_groupsAround : Cond.selects RX10 yX10_groupsAround yX10_groupsAround ∈ tb := inT 39 (by decide +kernel)
theorem se_X10_adds : Cond.selects RX10 yX10_adds yX10_adds ∈ tb := inT 40 (by decide +kernel)
theorem se_X10_notBox : Cond.selects RX10 yX10_notBox yX10_notBox ∈ tb := inT 41 (by decide +kernel)
theorem se_X10_notMove : Cond.selects RX10 yX10_notMove yX10_notMove ∈ tb := inT 42 (by decide +kernel)
theorem se_X10_moves : Cond.selects RX10 yX10_moves yX10_moves ∈ tb := inT 43 (by decide +kernel)
theorem se_X10_notRemove : Cond.selects RX10 yX10_notRemove yX10_notRemove ∈ tb := inT 44 (by decide +kernel)
theorem se_X10_removes : Cond.selects RX10 yX10_removes yX10_removes ∈ tb := inT 45 (by decide +kernel)
theorem se_X10_isWithin : Cond.selects RX10 yX10_isWithin yX10_isWithin ∈ tb := inT 46 (by decide +kernel)
theorem se_X10_notScene : Cond.selects RX10 yX10_notScene yX10_notScene ∈ tb := inT 47 (by decide +kernel)
theorem se_X10_addsScene : Cond.selects RX10 yX10_addsScene yX10_addsScene ∈ tb := inT 48 (by decide +kernel)
theorem se_X10_sets : Cond.selects RX10 yX10_sets yX10_sets ∈ tb := inT 49 (by decide +kernel)
theorem se_X10_notTitle : Cond.selects RX10 yX10_notTitle yX10_notTitle ∈ tb := inT 50 (by decide +kernel)
theorem se_X10_setsTitle : Cond.selects RX10 yX10_setsTitle yX10_setsTitle ∈ tb := inT 51 (by decide +kernel)
theorem se_X10_ticksOn : Cond.selects RX10 yX10_ticksOn yX10_ticksOn ∈ tb := inT 52 (by decide +kernel)
theorem se_X10_tickOnce : Cond.selects RX10 yX10_tickOnce yX10_tickOnce ∈ tb := inT 53 (by decide +kernel)
theorem se_X10_sceneNow : Cond.selects RX10 yX10_sceneNow yX10_sceneNow ∈ tb := inT 54 (by decide +kernel)
theorem se_X10_survey : Cond.selects RX10 yX10_survey yX10_survey ∈ tb := inT 55 (by decide +kernel)
theorem se_X10_places : Cond.selects RX10 yX10_places yX10_places ∈ tb := inT 56 (by decide +kernel)
theorem se_X10_sumOf : Cond.selects RX10 yX10_sumOf yX10_sumOf ∈ tb := inT 57 (by decide +kernel)
theorem se_X10_percentageBy : Cond.selects RX10 yX10_percentageBy yX10_percentageBy ∈ tb := inT 58 (by decide +kernel)
theorem se_X10_fits : Cond.selects RX10 yX10_fits yX10_fits ∈ tb := inT 59 (by decide +kernel)
theorem se_X10_raw : Cond.selects RX10 yX10_raw yX10_raw ∈ tb := inT 60 (by decide +kernel)
theorem se_X10_sort : Cond.selects RX10 yX10_sort yX10_sort ∈ tb := inT 61 (by decide +kernel)
theorem se_X10_mask : Cond.selects RX10 yX10_mask yX10_mask ∈ tb := inT 62 (by decide +kernel)
theorem se_X10_isCut : Cond.selects RX10 yX10_isCut yX10_isCut ∈ tb := inT 63 (by decide +kernel)
theorem se_X10_isCutLeft : Cond.selects RX10 yX10_isCutLeft yX10_isCutLeft ∈ tb := inT 64 (by decide +kernel)
theorem se_X10_columnOf : Cond.selects RX10 yX10_columnOf yX10_columnOf ∈ tb := inT 65 (by decide +kernel)
theorem se_X10_isInRows : Cond.selects RX10 yX10_isInRows yX10_isInRows ∈ tb := inT 66 (by decide +kernel)
theorem se_X10_isCutRight : Cond.selects RX10 yX10_isCutRight yX10_isCutRight ∈ tb := inT 67 (by decide +kernel)
theorem se_X10_findTitle : Cond.selects RX10 yX10_findTitle yX10_findTitle ∈ tb := inT 68 (by decide +kernel)
theorem se_X10_isClear : Cond.selects RX10 yX10_isClear yX10_isClear ∈ tb := inT 69 (by decide +kernel)
theorem se_X10_nodeOf : Cond.selects RX10 yX10_nodeOf yX10_nodeOf ∈ tb := inT 70 (by decide +kernel)
theorem se_X10_inside : Cond.selects RX10 yX10_inside yX10_inside ∈ tb := inT 71 (by decide +kernel)
theorem se_X10_boxOf : Cond.selects RX10 yX10_boxOf yX10_boxOf ∈ tb := inT 72 (by decide +kernel)
theorem se_X10_sceneOf : Cond.selects RX10 yX10_sceneOf yX10_sceneOf ∈ tb := inT 73 (by decide +kernel)
theorem se_X10_titleOf : Cond.selects RX10 yX10_titleOf yX10_titleOf ∈ tb := inT 74 (by decide +kernel)
theorem se_X10_wholeOf : Cond.selects RX10 yX10_wholeOf yX10_wholeOf ∈ tb := inT 75 (by decide +kernel)
theorem se_X10_isCell : Cond.selects RX10 yX10_isCell yX10_isCell ∈ tb := inT 76 (by decide +kernel)
theorem se_X10_shadeOf : Cond.selects RX10 yX10_shadeOf yX10_shadeOf ∈ tb := inT 77 (by decide +kernel)
theorem se_X10_top : Cond.selects RX10 yX10_top yX10_top ∈ tb := inT 78 (by decide +kernel)
theorem se_X10_isTitle : Cond.selects RX10 yX10_isTitle yX10_isTitle ∈ tb := inT 79 (by decide +kernel)
theorem se_X10_ghostOf : Cond.selects RX10 yX10_ghostOf yX10_ghostOf ∈ tb := inT 80 (by decide +kernel)
theorem se_X10_ghostsNow : Cond.selects RX10 yX10_ghostsNow yX10_ghostsNow ∈ tb := inT 81 (by decide +kernel)
theorem se_X10_isGood : Cond.selects RX10 yX10_isGood yX10_isGood ∈ tb := inT 82 (by decide +kernel)
theorem se_X10_skips : Cond.selects RX10 yX10_skips yX10_skips ∈ tb := inT 83 (by decide +kernel)
theorem se_X10_here : Cond.selects RX10 yX10_here yX10_here ∈ tb := inT 84 (by decide +kernel)
theorem se_X10_readCommand : Cond.selects RX10 yX10_readCommand yX10_readCommand ∈ tb := inT 85 (by decide +kernel)
theorem se_X10_readWord : Cond.selects RX10 yX10_readWord yX10_readWord ∈ tb := inT 86 (by decide +kernel)
theorem se_X10_manyFor : Cond.selects RX10 yX10_manyFor yX10_manyFor ∈ tb := inT 87 (by decide +kernel)
theorem se_X10_readNumber : Cond.selects RX10 yX10_readNumber yX10_readNumber ∈ tb := inT 88 (by decide +kernel)
theorem se_X10_whyNot : Cond.selects RX10 yX10_whyNot yX10_whyNot ∈ tb := inT 89 (by decide +kernel)
theorem se_X10_carryOut : Cond.selects RX10 yX10_carryOut yX10_carryOut ∈ tb := inT 90 (by decide +kernel)
theorem se_X10_mix : Cond.selects RX10 yX10_mix yX10_mix ∈ tb := inT 91 (by decide +kernel)
theorem se_X10_mixThings : Cond.selects RX10 yX10_mixThings yX10_mixThings ∈ tb := inT 92 (by decide +kernel)
theorem co_X9_init : Cond.code yX9_init cX9_init 1 none ∈ tb := inT 120 (by decide +kernel)
theorem co_obj : Cond.code objectInit object_method_1_code 1 none ∈ tb := inT 123 (by decide +kernel)
theorem co_X7_init : Cond.code yX7_init cX7_init 1 none ∈ tb := inT 128 (by decide +kernel)
theorem co_X2_init : Cond.code yX2_init cX2_init 1 none ∈ tb := inT 134 (by decide +kernel)
theorem co_X5_init : Cond.code yX5_init cX5_init 1 none ∈ tb := inT 140 (by decide +kernel)
theorem co_X6_init : Cond.code yX6_init cX6_init 1 none ∈ tb := inT 146 (by decide +kernel)
theorem co_X3_init : Cond.code yX3_init cX3_init 1 none ∈ tb := inT 198 (by decide +kernel)
theorem co_X1_init : Cond.code yX1_init cX1_init 1 none ∈ tb := inT 352 (by decide +kernel)
theorem co_X4_init : Cond.code yX4_init cX4_init 1 none ∈ tb := inT 368 (by decide +kernel)
theorem co_X9_clearTitle : Cond.code yX9_clearTitle cX9_clearTitle 1 (Option.some FieldType.int) ∈ tb := inT 412 (by decide +kernel)
theorem co_X9_keepState : Cond.code yX9_keepState cX9_keepState 1 none ∈ tb := inT 416 (by decide +kernel)
theorem co_X1_save : Cond.code yX1_save cX1_save 3 none ∈ tb := inT 420 (by decide +kernel)
theorem co_X1_dropOldest : Cond.code yX1_dropOldest cX1_dropOldest 3 none ∈ tb := inT 424 (by decide +kernel)
theorem co_X5_copyFrom : Cond.code yX5_copyFrom cX5_copyFrom 2 none ∈ tb := inT 429 (by decide +kernel)
theorem co_X6_copyFrom : Cond.code yX6_copyFrom cX6_copyFrom 2 none ∈ tb := inT 433 (by decide +kernel)
theorem co_X9_copyRow : Cond.code yX9_copyRow cX9_copyRow 2 none ∈ tb := inT 436 (by decide +kernel)
theorem co_J9_min_7cf53 : Cond.code yJ9_min_7cf53 cJ9_min_7cf53 2 (Option.some FieldType.int) ∈ tb := inT 439 (by decide +kernel)
theorem co_X3_copyFrom : Cond.code yX3_copyFrom cX3_copyFrom 2 none ∈ tb := inT 446 (by decide +kernel)
theorem co_X5_entitle : Cond.code yX5_entitle cX5_entitle 5 (Option.some FieldType.int) ∈ tb := inT 452 (by decide +kernel)
theorem co_X9_fittingGain : Cond.code yX9_fittingGain cX9_fittingGain 1 (Option.some FieldType.int) ∈ tb := inT 456 (by decide +kernel)
theorem co_X9_freshView : Cond.code yX9_freshView cX9_freshView 1 (Option.some (FieldType.object "EyeStage$View")) ∈ tb := inT 460 (by decide +kernel)
theorem co_X7_measure : Cond.code yX7_measure cX7_measure 1 none ∈ tb := inT 464 (by decide +kernel)
theorem co_X2_measure : Cond.code yX2_measure cX2_measure 2 none ∈ tb := inT 468 (by decide +kernel)
theorem co_X2_placeNodes : Cond.code yX2_placeNodes cX2_placeNodes 4 none ∈ tb := inT 472 (by decide +kernel)
theorem co_X2_percentageWithin : Cond.code yX2_percentageWithin cX2_percentageWithin 4 (Option.some FieldType.int) ∈ tb := inT 476 (by decide +kernel)
theorem co_X2_fits : Cond.code yX2_fits cX2_fits 6 (Option.some FieldType.boolean) ∈ tb := inT 480 (by decide +kernel)
theorem co_X6_isBox : Cond.code yX6_isBox cX6_isBox 2 (Option.some FieldType.boolean) ∈ tb := inT 484 (by decide +kernel)
theorem co_X2_rawShift : Cond.code yX2_rawShift cX2_rawShift 2 (Option.some FieldType.int) ∈ tb := inT 487 (by decide +kernel)
theorem co_J9_floorDiv_7cf53 : Cond.code yJ9_floorDiv_7cf53 cJ9_floorDiv_7cf53 3 (Option.some FieldType.int) ∈ tb := inT 490 (by decide +kernel)
theorem co_X9_within : Cond.code yX9_within cX9_within 3 (Option.some FieldType.boolean) ∈ tb := inT 493 (by decide +kernel)
theorem co_X9_columnOf : Cond.code yX9_columnOf cX9_columnOf 3 (Option.some FieldType.int) ∈ tb := inT 496 (by decide +kernel)
theorem co_X2_putInOrder : Cond.code yX2_putInOrder cX2_putInOrder 3 none ∈ tb := inT 501 (by decide +kernel)
theorem co_X2_isNearer : Cond.code yX2_isNearer cX2_isNearer 3 (Option.some FieldType.boolean) ∈ tb := inT 505 (by decide +kernel)
theorem co_X6_has : Cond.code yX6_has cX6_has 2 (Option.some FieldType.boolean) ∈ tb := inT 509 (by decide +kernel)
theorem co_X7_windowShift : Cond.code yX7_windowShift cX7_windowShift 5 (Option.some FieldType.int) ∈ tb := inT 513 (by decide +kernel)
theorem co_X7_greatestCut : Cond.code yX7_greatestCut cX7_greatestCut 5 (Option.some FieldType.int) ∈ tb := inT 517 (by decide +kernel)
theorem co_X7_isCut : Cond.code yX7_isCut cX7_isCut 7 (Option.some FieldType.boolean) ∈ tb := inT 521 (by decide +kernel)
theorem co_X2_inFrame : Cond.code yX2_inFrame cX2_inFrame 2 (Option.some FieldType.boolean) ∈ tb := inT 525 (by decide +kernel)
theorem co_X7_crosses : Cond.code yX7_crosses cX7_crosses 3 (Option.some FieldType.boolean) ∈ tb := inT 528 (by decide +kernel)
theorem co_X7_findTitle : Cond.code yX7_findTitle cX7_findTitle 3 none ∈ tb := inT 532 (by decide +kernel)
theorem co_X7_titleCanStand : Cond.code yX7_titleCanStand cX7_titleCanStand 8 (Option.some FieldType.boolean) ∈ tb := inT 536 (by decide +kernel)
theorem co_X7_firstOpen : Cond.code yX7_firstOpen cX7_firstOpen 2 (Option.some FieldType.int) ∈ tb := inT 541 (by decide +kernel)
theorem co_X7_endOfOpen : Cond.code yX7_endOfOpen cX7_endOfOpen 2 (Option.some FieldType.int) ∈ tb := inT 545 (by decide +kernel)
theorem co_X2_inRow : Cond.code yX2_inRow cX2_inRow 3 (Option.some FieldType.boolean) ∈ tb := inT 549 (by decide +kernel)
theorem co_X2_column : Cond.code yX2_column cX2_column 3 (Option.some FieldType.int) ∈ tb := inT 553 (by decide +kernel)
theorem co_X2_gainThatFits : Cond.code yX2_gainThatFits cX2_gainThatFits 2 (Option.some FieldType.int) ∈ tb := inT 557 (by decide +kernel)
theorem co_X9_clearCommands : Cond.code yX9_clearCommands cX9_clearCommands 2 (Option.some FieldType.int) ∈ tb := inT 561 (by decide +kernel)
theorem co_X9_runCommands : Cond.code yX9_runCommands cX9_runCommands 2 (Option.some FieldType.int) ∈ tb := inT 565 (by decide +kernel)
theorem co_X4_findFault : Cond.code yX4_findFault cX4_findFault 2 (Option.some FieldType.int) ∈ tb := inT 569 (by decide +kernel)
theorem co_X4_skipSpaces : Cond.code yX4_skipSpaces cX4_skipSpaces 1 none ∈ tb := inT 573 (by decide +kernel)
theorem co_X4_byteAt : Cond.code yX4_byteAt cX4_byteAt 2 (Option.some FieldType.int) ∈ tb := inT 577 (by decide +kernel)
theorem co_X4_readCommand : Cond.code yX4_readCommand cX4_readCommand 4 (Option.some FieldType.boolean) ∈ tb := inT 581 (by decide +kernel)
theorem co_X4_wordBetween : Cond.code yX4_wordBetween cX4_wordBetween 7 (Option.some (FieldType.object "EyeStage$Word")) ∈ tb := inT 585 (by decide +kernel)
theorem co_X4_isWritten : Cond.code yX4_isWritten cX4_isWritten 5 (Option.some FieldType.boolean) ∈ tb := inT 591 (by decide +kernel)
theorem co_J0_length_8abf5 : Cond.code yJ0_length_8abf5 cJ0_length_8abf5 1 (Option.some FieldType.int) ∈ tb := inT 595 (by decide +kernel)
theorem co_J0_coder_7d493 : Cond.code yJ0_coder_7d493 cJ0_coder_7d493 1 (Option.some FieldType.byte) ∈ tb := inT 599 (by decide +kernel)
theorem co_J0_charAt_5068e : Cond.code yJ0_charAt_5068e cJ0_charAt_5068e 2 (Option.some FieldType.char) ∈ tb := inT 605 (by decide +kernel)
theorem co_J0_isLatin1_aae02 : Cond.code yJ0_isLatin1_aae02 cJ0_isLatin1_aae02 1 (Option.some FieldType.boolean) ∈ tb := inT 609 (by decide +kernel)
theorem co_J1_charAt_3b067 : Cond.code yJ1_charAt_3b067 cJ1_charAt_3b067 2 (Option.some FieldType.char) ∈ tb := inT 612 (by decide +kernel)
theorem co_J0_checkIndex_df160 : Cond.code yJ0_checkIndex_df160 cJ0_checkIndex_df160 2 none ∈ tb := inT 615 (by decide +kernel)
theorem co_J3_checkIndex_8e157 : Cond.code yJ3_checkIndex_8e157 cJ3_checkIndex_8e157 3 (Option.some FieldType.int) ∈ tb := inT 620 (by decide +kernel)
theorem co_J2_charAt_3b067 : Cond.code yJ2_charAt_3b067 cJ2_charAt_3b067 2 (Option.some FieldType.char) ∈ tb := inT 623 (by decide +kernel)
theorem co_J2_checkIndex_2214a : Cond.code yJ2_checkIndex_2214a cJ2_checkIndex_2214a 2 none ∈ tb := inT 626 (by decide +kernel)
theorem co_J2_length_9d52b : Cond.code yJ2_length_9d52b cJ2_length_9d52b 1 (Option.some FieldType.int) ∈ tb := inT 629 (by decide +kernel)
theorem co_J2_getChar_3b067 : Cond.code yJ2_getChar_3b067 cJ2_getChar_3b067 2 (Option.some FieldType.char) ∈ tb := inT 633 (by decide +kernel)
theorem co_X4_readNumber : Cond.code yX4_readNumber cX4_readNumber 4 (Option.some FieldType.boolean) ∈ tb := inT 643 (by decide +kernel)
theorem co_X4_isDigit : Cond.code yX4_isDigit cX4_isDigit 1 (Option.some FieldType.boolean) ∈ tb := inT 646 (by decide +kernel)
theorem co_X4_runOn : Cond.code yX4_runOn cX4_runOn 4 (Option.some FieldType.int) ∈ tb := inT 650 (by decide +kernel)
theorem co_X4_carryOut : Cond.code yX4_carryOut cX4_carryOut 3 (Option.some FieldType.boolean) ∈ tb := inT 654 (by decide +kernel)
theorem co_X4_faultOn : Cond.code yX4_faultOn cX4_faultOn 3 (Option.some FieldType.int) ∈ tb := inT 658 (by decide +kernel)
theorem co_Jx29ce0_ordinal_8abf5 : Cond.code yJx29ce0_ordinal_8abf5 cJx29ce0_ordinal_8abf5 1 (Option.some FieldType.int) ∈ tb := inT 666 (by decide +kernel)
theorem co_X5_faultOfFrame : Cond.code yX5_faultOfFrame cX5_faultOfFrame 3 (Option.some FieldType.int) ∈ tb := inT 670 (by decide +kernel)
theorem co_X6_faultOfGroup : Cond.code yX6_faultOfGroup cX6_faultOfGroup 5 (Option.some FieldType.int) ∈ tb := inT 675 (by decide +kernel)
theorem co_X6_isPlace : Cond.code yX6_isPlace cX6_isPlace 3 (Option.some FieldType.boolean) ∈ tb := inT 680 (by decide +kernel)
theorem co_X6_isCoordinate : Cond.code yX6_isCoordinate cX6_isCoordinate 1 (Option.some FieldType.boolean) ∈ tb := inT 683 (by decide +kernel)
theorem co_X6_aroundChildOf : Cond.code yX6_aroundChildOf cX6_aroundChildOf 2 (Option.some FieldType.int) ∈ tb := inT 687 (by decide +kernel)
theorem co_X6_faultOfBox : Cond.code yX6_faultOfBox cX6_faultOfBox 9 (Option.some FieldType.int) ∈ tb := inT 691 (by decide +kernel)
theorem co_X6_faultOfPlacing : Cond.code yX6_faultOfPlacing cX6_faultOfPlacing 5 (Option.some FieldType.int) ∈ tb := inT 697 (by decide +kernel)
theorem co_X3_faultOfScene : Cond.code yX3_faultOfScene cX3_faultOfScene 5 (Option.some FieldType.int) ∈ tb := inT 701 (by decide +kernel)
theorem co_X9_faultOfBudget : Cond.code yX9_faultOfBudget cX9_faultOfBudget 2 (Option.some FieldType.int) ∈ tb := inT 704 (by decide +kernel)
theorem co_X9_faultOfRange : Cond.code yX9_faultOfRange cX9_faultOfRange 3 (Option.some FieldType.int) ∈ tb := inT 708 (by decide +kernel)
theorem co_X5_faultOfSetting : Cond.code yX5_faultOfSetting cX5_faultOfSetting 3 (Option.some FieldType.int) ∈ tb := inT 712 (by decide +kernel)
theorem co_X5_faultOfTitle : Cond.code yX5_faultOfTitle cX5_faultOfTitle 5 (Option.some FieldType.int) ∈ tb := inT 721 (by decide +kernel)
theorem co_X6_faultOfNumber : Cond.code yX6_faultOfNumber cX6_faultOfNumber 2 (Option.some FieldType.int) ∈ tb := inT 725 (by decide +kernel)
theorem co_X5_faultOfTicks : Cond.code yX5_faultOfTicks cX5_faultOfTicks 2 (Option.some FieldType.int) ∈ tb := inT 729 (by decide +kernel)
theorem co_X4_applyTo : Cond.code yX4_applyTo cX4_applyTo 3 none ∈ tb := inT 733 (by decide +kernel)
theorem co_X5_reframe : Cond.code yX5_reframe cX5_reframe 4 (Option.some FieldType.int) ∈ tb := inT 737 (by decide +kernel)
theorem co_X3_clear : Cond.code yX3_clear cX3_clear 1 none ∈ tb := inT 741 (by decide +kernel)
theorem co_X6_appendGroup : Cond.code yX6_appendGroup cX6_appendGroup 5 (Option.some FieldType.int) ∈ tb := inT 746 (by decide +kernel)
theorem co_X6_appendBox : Cond.code yX6_appendBox cX6_appendBox 8 (Option.some FieldType.int) ∈ tb := inT 750 (by decide +kernel)
theorem co_X6_placeAt : Cond.code yX6_placeAt cX6_placeAt 6 (Option.some FieldType.int) ∈ tb := inT 755 (by decide +kernel)
theorem co_X3_append : Cond.code yX3_append cX3_append 5 (Option.some FieldType.int) ∈ tb := inT 759 (by decide +kernel)
theorem co_X5_change : Cond.code yX5_change cX5_change 4 (Option.some FieldType.int) ∈ tb := inT 763 (by decide +kernel)
theorem co_X6_drop : Cond.code yX6_drop cX6_drop 6 (Option.some FieldType.int) ∈ tb := inT 768 (by decide +kernel)
theorem co_X6_shiftDown : Cond.code yX6_shiftDown cX6_shiftDown 3 none ∈ tb := inT 772 (by decide +kernel)
theorem co_X5_pass : Cond.code yX5_pass cX5_pass 3 (Option.some FieldType.int) ∈ tb := inT 776 (by decide +kernel)
theorem co_X3_passTick : Cond.code yX3_passTick cX3_passTick 3 none ∈ tb := inT 780 (by decide +kernel)
theorem co_X3_present : Cond.code yX3_present cX3_present 3 (Option.some FieldType.int) ∈ tb := inT 784 (by decide +kernel)
theorem co_X3_has : Cond.code yX3_has cX3_has 2 (Option.some FieldType.boolean) ∈ tb := inT 788 (by decide +kernel)
theorem co_X3_towards : Cond.code yX3_towards cX3_towards 3 (Option.some FieldType.int) ∈ tb := inT 791 (by decide +kernel)
theorem co_J9_max_7cf53 : Cond.code yJ9_max_7cf53 cJ9_max_7cf53 2 (Option.some FieldType.int) ∈ tb := inT 795 (by decide +kernel)
theorem co_X9_digest : Cond.code yX9_digest cX9_digest 6 (Option.some FieldType.long) ∈ tb := inT 799 (by decide +kernel)
theorem co_X7_wholeValue : Cond.code yX7_wholeValue cX7_wholeValue 2 (Option.some FieldType.int) ∈ tb := inT 805 (by decide +kernel)
theorem co_X6_boxes : Cond.code yX6_boxes cX6_boxes 3 (Option.some FieldType.int) ∈ tb := inT 809 (by decide +kernel)
theorem co_X2_valueOf : Cond.code yX2_valueOf cX2_valueOf 3 (Option.some FieldType.int) ∈ tb := inT 814 (by decide +kernel)
theorem co_X6_children : Cond.code yX6_children cX6_children 4 (Option.some FieldType.int) ∈ tb := inT 818 (by decide +kernel)
theorem co_X3_valueOf : Cond.code yX3_valueOf cX3_valueOf 3 (Option.some FieldType.int) ∈ tb := inT 822 (by decide +kernel)
theorem co_X3_beginOf : Cond.code yX3_beginOf cX3_beginOf 4 (Option.some FieldType.int) ∈ tb := inT 826 (by decide +kernel)
theorem co_X7_titleValue : Cond.code yX7_titleValue cX7_titleValue 2 (Option.some FieldType.int) ∈ tb := inT 830 (by decide +kernel)
theorem co_X7_titleColumn : Cond.code yX7_titleColumn cX7_titleColumn 2 (Option.some FieldType.int) ∈ tb := inT 834 (by decide +kernel)
theorem co_X7_hashImages : Cond.code yX7_hashImages cX7_hashImages 7 (Option.some FieldType.long) ∈ tb := inT 838 (by decide +kernel)
theorem co_X7_holdRow : Cond.code yX7_holdRow cX7_holdRow 3 (Option.some FieldType.boolean) ∈ tb := inT 842 (by decide +kernel)
theorem co_X7_isLikeAbove : Cond.code yX7_isLikeAbove cX7_isLikeAbove 3 (Option.some FieldType.boolean) ∈ tb := inT 846 (by decide +kernel)
theorem co_X7_paintRow : Cond.code yX7_paintRow cX7_paintRow 7 none ∈ tb := inT 850 (by decide +kernel)
theorem co_X7_fill : Cond.code yX7_fill cX7_fill 7 none ∈ tb := inT 854 (by decide +kernel)
theorem co_X2_boxAt : Cond.code yX2_boxAt cX2_boxAt 2 (Option.some FieldType.int) ∈ tb := inT 860 (by decide +kernel)
theorem co_X9_begin : Cond.code yX9_begin cX9_begin 3 (Option.some FieldType.int) ∈ tb := inT 869 (by decide +kernel)
theorem co_X9_refuse : Cond.code yX9_refuse cX9_refuse 1 none ∈ tb := inT 873 (by decide +kernel)
theorem co_X9_addGroup : Cond.code yX9_addGroup cX9_addGroup 5 (Option.some FieldType.int) ∈ tb := inT 983 (by decide +kernel)
theorem co_X9_addBox : Cond.code yX9_addBox cX9_addBox 7 (Option.some FieldType.int) ∈ tb := inT 992 (by decide +kernel)
theorem co_X9_move : Cond.code yX9_move cX9_move 5 (Option.some FieldType.int) ∈ tb := inT 1001 (by decide +kernel)
theorem co_X9_setShade : Cond.code yX9_setShade cX9_setShade 3 (Option.some FieldType.int) ∈ tb := inT 1010 (by decide +kernel)
theorem co_X6_faultOfColour : Cond.code yX6_faultOfColour cX6_faultOfColour 3 (Option.some FieldType.int) ∈ tb := inT 1014 (by decide +kernel)
theorem co_X6_colour : Cond.code yX6_colour cX6_colour 4 (Option.some FieldType.int) ∈ tb := inT 1018 (by decide +kernel)
theorem co_X9_removeNode : Cond.code yX9_removeNode cX9_removeNode 2 (Option.some FieldType.int) ∈ tb := inT 1025 (by decide +kernel)
theorem co_X9_addScene : Cond.code yX9_addScene cX9_addScene 4 (Option.some FieldType.int) ∈ tb := inT 1034 (by decide +kernel)
theorem co_X9_set : Cond.code yX9_set cX9_set 3 (Option.some FieldType.int) ∈ tb := inT 1043 (by decide +kernel)
theorem co_X9_setTitle : Cond.code yX9_setTitle cX9_setTitle 4 (Option.some FieldType.int) ∈ tb := inT 1052 (by decide +kernel)
theorem co_X9_tick : Cond.code yX9_tick cX9_tick 2 (Option.some FieldType.int) ∈ tb := inT 1060 (by decide +kernel)
theorem co_X9_node : Cond.code yX9_node cX9_node 3 (Option.some FieldType.int) ∈ tb := inT 1069 (by decide +kernel)
theorem co_X9_painted : Cond.code yX9_painted cX9_painted 2 (Option.some FieldType.int) ∈ tb := inT 1077 (by decide +kernel)
theorem co_X9_scene : Cond.code yX9_scene cX9_scene 3 (Option.some FieldType.int) ∈ tb := inT 1085 (by decide +kernel)
theorem co_X9_title : Cond.code yX9_title cX9_title 2 (Option.some FieldType.int) ∈ tb := inT 1093 (by decide +kernel)
theorem co_X9_whole : Cond.code yX9_whole cX9_whole 2 (Option.some FieldType.int) ∈ tb := inT 1100 (by decide +kernel)
theorem co_X9_shade : Cond.code yX9_shade cX9_shade 4 (Option.some FieldType.int) ∈ tb := inT 1107 (by decide +kernel)
theorem co_X5_faultOfCell : Cond.code yX5_faultOfCell cX5_faultOfCell 3 (Option.some FieldType.int) ∈ tb := inT 1111 (by decide +kernel)
theorem co_X7_shadeAt : Cond.code yX7_shadeAt cX7_shadeAt 6 (Option.some FieldType.int) ∈ tb := inT 1115 (by decide +kernel)
theorem co_X2_frontBox : Cond.code yX2_frontBox cX2_frontBox 7 (Option.some FieldType.int) ∈ tb := inT 1119 (by decide +kernel)
theorem co_X9_shown : Cond.code yX9_shown cX9_shown 4 (Option.some FieldType.int) ∈ tb := inT 1130 (by decide +kernel)
theorem co_X9_ghost : Cond.code yX9_ghost cX9_ghost 3 (Option.some FieldType.int) ∈ tb := inT 1138 (by decide +kernel)
theorem co_X7_ghostAt : Cond.code yX7_ghostAt cX7_ghostAt 3 (Option.some FieldType.int) ∈ tb := inT 1142 (by decide +kernel)
theorem co_X7_ghostOf : Cond.code yX7_ghostOf cX7_ghostOf 3 (Option.some FieldType.int) ∈ tb := inT 1147 (by decide +kernel)
theorem co_J9_abs_0f7a4 : Cond.code yJ9_abs_0f7a4 cJ9_abs_0f7a4 1 (Option.some FieldType.int) ∈ tb := inT 1150 (by decide +kernel)
theorem co_X9_ghosts : Cond.code yX9_ghosts cX9_ghosts 2 (Option.some FieldType.int) ∈ tb := inT 1157 (by decide +kernel)
theorem co_X7_countGhosts : Cond.code yX7_countGhosts cX7_countGhosts 6 (Option.some FieldType.int) ∈ tb := inT 1161 (by decide +kernel)
theorem co_X7_countInHeldRow : Cond.code yX7_countInHeldRow cX7_countInHeldRow 4 (Option.some FieldType.int) ∈ tb := inT 1165 (by decide +kernel)
theorem co_X9_meanGhost : Cond.code yX9_meanGhost cX9_meanGhost 2 (Option.some FieldType.double) ∈ tb := inT 1172 (by decide +kernel)
theorem co_X7_sumOfGhosts : Cond.code yX7_sumOfGhosts cX7_sumOfGhosts 4 (Option.some FieldType.int) ∈ tb := inT 1176 (by decide +kernel)
theorem co_X9_percentageFor : Cond.code yX9_percentageFor cX9_percentageFor 3 (Option.some FieldType.int) ∈ tb := inT 1183 (by decide +kernel)
theorem co_X9_fullAfter : Cond.code yX9_fullAfter cX9_fullAfter 6 (Option.some FieldType.int) ∈ tb := inT 1192 (by decide +kernel)
theorem co_X9_ghostsWithout : Cond.code yX9_ghostsWithout cX9_ghostsWithout 3 (Option.some FieldType.int) ∈ tb := inT 1202 (by decide +kernel)
theorem co_X9_type : Cond.code yX9_type cX9_type 2 (Option.some FieldType.int) ∈ tb := inT 1210 (by decide +kernel)
theorem co_X4_append : Cond.code yX4_append cX4_append 2 (Option.some FieldType.int) ∈ tb := inT 1214 (by decide +kernel)
theorem co_X9_undo : Cond.code yX9_undo cX9_undo 1 (Option.some FieldType.int) ∈ tb := inT 1221 (by decide +kernel)
theorem co_X1_restore : Cond.code yX1_restore cX1_restore 3 none ∈ tb := inT 1225 (by decide +kernel)
theorem co_X10_init : Cond.code yX10_init cX10_init 1 none ∈ tb := inT 1230 (by decide +kernel)
theorem co_X10_anew : Cond.code yX10_anew cX10_anew 3 none ∈ tb := inT 1235 (by decide +kernel)
theorem co_X10_thrown : Cond.code yX10_thrown cX10_thrown 1 (Option.some FieldType.int) ∈ tb := inT 1312 (by decide +kernel)
theorem co_X10_begin : Cond.code yX10_begin cX10_begin 3 (Option.some FieldType.int) ∈ tb := inT 1316 (by decide +kernel)
theorem co_X10_notBegin : Cond.code yX10_notBegin cX10_notBegin 2 (Option.some FieldType.int) ∈ tb := inT 1319 (by decide +kernel)
theorem co_X10_in : Cond.code yX10_in cX10_in 3 (Option.some FieldType.boolean) ∈ tb := inT 1322 (by decide +kernel)
theorem co_X10_keep : Cond.code yX10_keep cX10_keep 2 none ∈ tb := inT 1326 (by decide +kernel)
theorem co_X10_bring : Cond.code yX10_bring cX10_bring 5 none ∈ tb := inT 1329 (by decide +kernel)
theorem co_X10_begins : Cond.code yX10_begins cX10_begins 4 (Option.some FieldType.int) ∈ tb := inT 1333 (by decide +kernel)
theorem co_X10_addGroup : Cond.code yX10_addGroup cX10_addGroup 5 (Option.some FieldType.int) ∈ tb := inT 1337 (by decide +kernel)
theorem co_X10_notAdd : Cond.code yX10_notAdd cX10_notAdd 5 (Option.some FieldType.int) ∈ tb := inT 1341 (by decide +kernel)
theorem co_X10_isNode : Cond.code yX10_isNode cX10_isNode 2 (Option.some FieldType.boolean) ∈ tb := inT 1345 (by decide +kernel)
theorem co_X10_isBox : Cond.code yX10_isBox cX10_isBox 2 (Option.some FieldType.boolean) ∈ tb := inT 1349 (by decide +kernel)
theorem co_X10_of : Cond.code yX10_of cX10_of 3 (Option.some FieldType.int) ∈ tb := inT 1353 (by decide +kernel)
theorem co_X10_isFar : Cond.code yX10_isFar cX10_isFar 1 (Option.some FieldType.boolean) ∈ tb := inT 1356 (by decide +kernel)
theorem co_X10_groupsAround : Cond.code yX10_groupsAround cX10_groupsAround 4 (Option.some FieldType.int) ∈ tb := inT 1360 (by decide +kernel)
theorem co_X10_adds : Cond.code yX10_adds cX10_adds 8 (Option.some FieldType.int) ∈ tb := inT 1364 (by decide +kernel)
theorem co_X10_addBox : Cond.code yX10_addBox cX10_addBox 7 (Option.some FieldType.int) ∈ tb := inT 1368 (by decide +kernel)
theorem co_X10_notBox : Cond.code yX10_notBox cX10_notBox 8 (Option.some FieldType.int) ∈ tb := inT 1372 (by decide +kernel)
theorem co_X10_move : Cond.code yX10_move cX10_move 5 (Option.some FieldType.int) ∈ tb := inT 1376 (by decide +kernel)
theorem co_X10_notMove : Cond.code yX10_notMove cX10_notMove 5 (Option.some FieldType.int) ∈ tb := inT 1380 (by decide +kernel)
theorem co_X10_moves : Cond.code yX10_moves cX10_moves 7 (Option.some FieldType.int) ∈ tb := inT 1384 (by decide +kernel)
theorem co_X10_setShade : Cond.code yX10_setShade cX10_setShade 4 (Option.some FieldType.int) ∈ tb := inT 1388 (by decide +kernel)
theorem co_X10_removeNode : Cond.code yX10_removeNode cX10_removeNode 2 (Option.some FieldType.int) ∈ tb := inT 1392 (by decide +kernel)
theorem co_X10_notRemove : Cond.code yX10_notRemove cX10_notRemove 2 (Option.some FieldType.int) ∈ tb := inT 1396 (by decide +kernel)
theorem co_X10_removes : Cond.code yX10_removes cX10_removes 7 (Option.some FieldType.int) ∈ tb := inT 1400 (by decide +kernel)
theorem co_X10_isWithin : Cond.code yX10_isWithin cX10_isWithin 4 (Option.some FieldType.boolean) ∈ tb := inT 1404 (by decide +kernel)
theorem co_X10_addScene : Cond.code yX10_addScene cX10_addScene 4 (Option.some FieldType.int) ∈ tb := inT 1408 (by decide +kernel)
theorem co_X10_notScene : Cond.code yX10_notScene cX10_notScene 4 (Option.some FieldType.int) ∈ tb := inT 1412 (by decide +kernel)
theorem co_X10_addsScene : Cond.code yX10_addsScene cX10_addsScene 5 (Option.some FieldType.int) ∈ tb := inT 1416 (by decide +kernel)
theorem co_X10_set : Cond.code yX10_set cX10_set 3 (Option.some FieldType.int) ∈ tb := inT 1420 (by decide +kernel)
theorem co_X10_notSet : Cond.code yX10_notSet cX10_notSet 2 (Option.some FieldType.int) ∈ tb := inT 1423 (by decide +kernel)
theorem co_X10_sets : Cond.code yX10_sets cX10_sets 4 (Option.some FieldType.int) ∈ tb := inT 1427 (by decide +kernel)
theorem co_X10_setTitle : Cond.code yX10_setTitle cX10_setTitle 4 (Option.some FieldType.int) ∈ tb := inT 1431 (by decide +kernel)
theorem co_X10_notTitle : Cond.code yX10_notTitle cX10_notTitle 4 (Option.some FieldType.int) ∈ tb := inT 1435 (by decide +kernel)
theorem co_X10_setsTitle : Cond.code yX10_setsTitle cX10_setsTitle 5 (Option.some FieldType.int) ∈ tb := inT 1439 (by decide +kernel)
theorem co_X10_clearTitle : Cond.code yX10_clearTitle cX10_clearTitle 1 (Option.some FieldType.int) ∈ tb := inT 1443 (by decide +kernel)
theorem co_X10_tick : Cond.code yX10_tick cX10_tick 2 (Option.some FieldType.int) ∈ tb := inT 1447 (by decide +kernel)
theorem co_X10_notTick : Cond.code yX10_notTick cX10_notTick 1 (Option.some FieldType.int) ∈ tb := inT 1450 (by decide +kernel)
theorem co_X10_ticksOn : Cond.code yX10_ticksOn cX10_ticksOn 3 (Option.some FieldType.int) ∈ tb := inT 1454 (by decide +kernel)
theorem co_X10_tickOnce : Cond.code yX10_tickOnce cX10_tickOnce 2 none ∈ tb := inT 1458 (by decide +kernel)
theorem co_X10_sceneNow : Cond.code yX10_sceneNow cX10_sceneNow 3 (Option.some FieldType.int) ∈ tb := inT 1462 (by decide +kernel)
theorem co_X10_towards : Cond.code yX10_towards cX10_towards 3 (Option.some FieldType.int) ∈ tb := inT 1465 (by decide +kernel)
theorem co_X10_node : Cond.code yX10_node cX10_node 3 (Option.some FieldType.int) ∈ tb := inT 1469 (by decide +kernel)
theorem co_X10_survey : Cond.code yX10_survey cX10_survey 2 none ∈ tb := inT 1473 (by decide +kernel)
theorem co_X10_places : Cond.code yX10_places cX10_places 2 none ∈ tb := inT 1477 (by decide +kernel)
theorem co_X10_sumOf : Cond.code yX10_sumOf cX10_sumOf 5 (Option.some FieldType.int) ∈ tb := inT 1481 (by decide +kernel)
theorem co_X10_percentageBy : Cond.code yX10_percentageBy cX10_percentageBy 4 (Option.some FieldType.int) ∈ tb := inT 1485 (by decide +kernel)
theorem co_X10_fits : Cond.code yX10_fits cX10_fits 6 (Option.some FieldType.boolean) ∈ tb := inT 1489 (by decide +kernel)
theorem co_X10_raw : Cond.code yX10_raw cX10_raw 2 (Option.some FieldType.int) ∈ tb := inT 1493 (by decide +kernel)
theorem co_X10_floor : Cond.code yX10_floor cX10_floor 2 (Option.some FieldType.int) ∈ tb := inT 1496 (by decide +kernel)
theorem co_X10_sort : Cond.code yX10_sort cX10_sort 3 none ∈ tb := inT 1500 (by decide +kernel)
theorem co_X10_mask : Cond.code yX10_mask cX10_mask 6 (Option.some FieldType.int) ∈ tb := inT 1504 (by decide +kernel)
theorem co_X10_isCut : Cond.code yX10_isCut cX10_isCut 4 (Option.some FieldType.boolean) ∈ tb := inT 1508 (by decide +kernel)
theorem co_X10_isCutLeft : Cond.code yX10_isCutLeft cX10_isCutLeft 6 (Option.some FieldType.boolean) ∈ tb := inT 1512 (by decide +kernel)
theorem co_X10_columnOf : Cond.code yX10_columnOf cX10_columnOf 3 (Option.some FieldType.int) ∈ tb := inT 1516 (by decide +kernel)
theorem co_X10_column : Cond.code yX10_column cX10_column 3 (Option.some FieldType.int) ∈ tb := inT 1519 (by decide +kernel)
theorem co_X10_isInRows : Cond.code yX10_isInRows cX10_isInRows 2 (Option.some FieldType.boolean) ∈ tb := inT 1523 (by decide +kernel)
theorem co_X10_isCutRight : Cond.code yX10_isCutRight cX10_isCutRight 6 (Option.some FieldType.boolean) ∈ tb := inT 1527 (by decide +kernel)
theorem co_X10_greater : Cond.code yX10_greater cX10_greater 2 (Option.some FieldType.int) ∈ tb := inT 1530 (by decide +kernel)
theorem co_X10_findTitle : Cond.code yX10_findTitle cX10_findTitle 3 none ∈ tb := inT 1534 (by decide +kernel)
theorem co_X10_isClear : Cond.code yX10_isClear cX10_isClear 11 (Option.some FieldType.boolean) ∈ tb := inT 1538 (by decide +kernel)
theorem co_X10_nodeOf : Cond.code yX10_nodeOf cX10_nodeOf 3 (Option.some FieldType.int) ∈ tb := inT 1542 (by decide +kernel)
theorem co_X10_inside : Cond.code yX10_inside cX10_inside 4 (Option.some FieldType.int) ∈ tb := inT 1546 (by decide +kernel)
theorem co_X10_boxOf : Cond.code yX10_boxOf cX10_boxOf 3 (Option.some FieldType.int) ∈ tb := inT 1550 (by decide +kernel)
theorem co_X10_painted : Cond.code yX10_painted cX10_painted 2 (Option.some FieldType.int) ∈ tb := inT 1554 (by decide +kernel)
theorem co_X10_scene : Cond.code yX10_scene cX10_scene 3 (Option.some FieldType.int) ∈ tb := inT 1558 (by decide +kernel)
theorem co_X10_sceneOf : Cond.code yX10_sceneOf cX10_sceneOf 5 (Option.some FieldType.int) ∈ tb := inT 1562 (by decide +kernel)
theorem co_X10_title : Cond.code yX10_title cX10_title 2 (Option.some FieldType.int) ∈ tb := inT 1566 (by decide +kernel)
theorem co_X10_titleOf : Cond.code yX10_titleOf cX10_titleOf 2 (Option.some FieldType.int) ∈ tb := inT 1570 (by decide +kernel)
theorem co_X10_whole : Cond.code yX10_whole cX10_whole 2 (Option.some FieldType.int) ∈ tb := inT 1574 (by decide +kernel)
theorem co_X10_wholeOf : Cond.code yX10_wholeOf cX10_wholeOf 2 (Option.some FieldType.int) ∈ tb := inT 1578 (by decide +kernel)
theorem co_X10_shade : Cond.code yX10_shade cX10_shade 4 (Option.some FieldType.int) ∈ tb := inT 1582 (by decide +kernel)
theorem co_X10_isCell : Cond.code yX10_isCell cX10_isCell 3 (Option.some FieldType.boolean) ∈ tb := inT 1586 (by decide +kernel)
theorem co_X10_shadeOf : Cond.code yX10_shadeOf cX10_shadeOf 5 (Option.some FieldType.int) ∈ tb := inT 1590 (by decide +kernel)
theorem co_X10_top : Cond.code yX10_top cX10_top 8 (Option.some FieldType.int) ∈ tb := inT 1594 (by decide +kernel)
theorem co_X10_isTitle : Cond.code yX10_isTitle cX10_isTitle 4 (Option.some FieldType.boolean) ∈ tb := inT 1598 (by decide +kernel)
theorem co_X10_shown : Cond.code yX10_shown cX10_shown 4 (Option.some FieldType.int) ∈ tb := inT 1602 (by decide +kernel)
theorem co_X10_ghost : Cond.code yX10_ghost cX10_ghost 3 (Option.some FieldType.int) ∈ tb := inT 1606 (by decide +kernel)
theorem co_X10_ghostOf : Cond.code yX10_ghostOf cX10_ghostOf 4 (Option.some FieldType.int) ∈ tb := inT 1610 (by decide +kernel)
theorem co_X10_ghosts : Cond.code yX10_ghosts cX10_ghosts 2 (Option.some FieldType.int) ∈ tb := inT 1614 (by decide +kernel)
theorem co_X10_ghostsNow : Cond.code yX10_ghostsNow cX10_ghostsNow 4 (Option.some FieldType.int) ∈ tb := inT 1618 (by decide +kernel)
theorem co_X10_meanGhost : Cond.code yX10_meanGhost cX10_meanGhost 4 (Option.some FieldType.double) ∈ tb := inT 1622 (by decide +kernel)
theorem co_X10_percentageFor : Cond.code yX10_percentageFor cX10_percentageFor 3 (Option.some FieldType.int) ∈ tb := inT 1626 (by decide +kernel)
theorem co_X10_isBudget : Cond.code yX10_isBudget cX10_isBudget 2 (Option.some FieldType.boolean) ∈ tb := inT 1629 (by decide +kernel)
theorem co_X10_fittingGain : Cond.code yX10_fittingGain cX10_fittingGain 3 (Option.some FieldType.int) ∈ tb := inT 1633 (by decide +kernel)
theorem co_X10_fullAfter : Cond.code yX10_fullAfter cX10_fullAfter 3 (Option.some FieldType.int) ∈ tb := inT 1637 (by decide +kernel)
theorem co_X10_ghostsWithout : Cond.code yX10_ghostsWithout cX10_ghostsWithout 5 (Option.some FieldType.int) ∈ tb := inT 1641 (by decide +kernel)
theorem co_X10_type : Cond.code yX10_type cX10_type 2 (Option.some FieldType.int) ∈ tb := inT 1645 (by decide +kernel)
theorem co_X10_clearCommands : Cond.code yX10_clearCommands cX10_clearCommands 2 (Option.some FieldType.int) ∈ tb := inT 1649 (by decide +kernel)
theorem co_X10_runCommands : Cond.code yX10_runCommands cX10_runCommands 5 (Option.some FieldType.int) ∈ tb := inT 1653 (by decide +kernel)
theorem co_X10_isGood : Cond.code yX10_isGood cX10_isGood 3 (Option.some FieldType.boolean) ∈ tb := inT 1657 (by decide +kernel)
theorem co_X10_skips : Cond.code yX10_skips cX10_skips 2 (Option.some FieldType.boolean) ∈ tb := inT 1661 (by decide +kernel)
theorem co_X10_here : Cond.code yX10_here cX10_here 1 (Option.some FieldType.int) ∈ tb := inT 1665 (by decide +kernel)
theorem co_X10_readCommand : Cond.code yX10_readCommand cX10_readCommand 2 (Option.some FieldType.boolean) ∈ tb := inT 1669 (by decide +kernel)
theorem co_X10_readWord : Cond.code yX10_readWord cX10_readWord 4 (Option.some FieldType.boolean) ∈ tb := inT 1673 (by decide +kernel)
theorem co_X10_commandOf : Cond.code yX10_commandOf cX10_commandOf 2 (Option.some FieldType.int) ∈ tb := inT 1679 (by decide +kernel)
theorem co_X10_manyFor : Cond.code yX10_manyFor cX10_manyFor 1 (Option.some FieldType.int) ∈ tb := inT 1692 (by decide +kernel)
theorem co_X10_readNumber : Cond.code yX10_readNumber cX10_readNumber 4 (Option.some FieldType.boolean) ∈ tb := inT 1696 (by decide +kernel)
theorem co_X10_whyNot : Cond.code yX10_whyNot cX10_whyNot 1 (Option.some FieldType.int) ∈ tb := inT 1700 (by decide +kernel)
theorem co_X10_carryOut : Cond.code yX10_carryOut cX10_carryOut 1 (Option.some FieldType.int) ∈ tb := inT 1704 (by decide +kernel)
theorem co_X10_undo : Cond.code yX10_undo cX10_undo 1 (Option.some FieldType.int) ∈ tb := inT 1708 (by decide +kernel)
theorem co_X10_digest : Cond.code yX10_digest cX10_digest 2 (Option.some FieldType.long) ∈ tb := inT 1712 (by decide +kernel)
theorem co_X10_mix : Cond.code yX10_mix cX10_mix 3 none ∈ tb := inT 1717 (by decide +kernel)
theorem co_X10_mixThings : Cond.code yX10_mixThings cX10_mixThings 3 none ∈ tb := inT 1722 (by decide +kernel)
theorem inw_X1 : ∀ w ∈ u_ws RX1 TX1 2, w ∈ tb := by decide +kernel
theorem inw_X2 : ∀ w ∈ u_ws RX2 TX2 11, w ∈ tb := by decide +kernel
theorem inw_X3 : ∀ w ∈ u_ws RX3 TX3 7, w ∈ tb := by decide +kernel
theorem inw_X4 : ∀ w ∈ u_ws RX4 TX4 5, w ∈ tb := by decide +kernel
theorem inw_X5 : ∀ w ∈ u_ws RX5 TX5 8, w ∈ tb := by decide +kernel
theorem inw_X6 : ∀ w ∈ u_ws RX6 TX6 10, w ∈ tb := by decide +kernel
theorem inw_X7 : ∀ w ∈ u_ws RX7 TX7 10, w ∈ tb := by decide +kernel
theorem inw_X9 : ∀ w ∈ u_ws RX9 TX9 7, w ∈ tb := by decide +kernel
theorem inw_X10 : ∀ w ∈ u_ws RX10 TX10 24, w ∈ tb := by decide +kernel
def nwM : List (String × Nat × MethodName × String) := [(RX9, 9, yX7_init, "EyeStage"), (RX7, 11, yX2_init, "EyeStage"), (RX5, 11, yX6_init, "EyeStage"), (RX5, 20, yX3_init, "EyeStage"), (RX9, 29, yX1_init, "EyeStage"), (RX9, 36, yX4_init, "EyeStage"), (RX6, 76, yX9_copyRow, "EyeStage"), (RX3, 65, yX9_copyRow, "EyeStage"), (RX5, 82, yX9_copyRow, "EyeStage"), (RX2, 118, yX9_within, "EyeStage"), (RX2, 91, yX9_columnOf, "EyeStage"), (RX7, 119, yX9_columnOf, "EyeStage"), (RX5, 36, yX9_within, "EyeStage"), (RX6, 65, yX9_within, "EyeStage"), (RX3, 31, yX9_faultOfBudget, "EyeStage"), (RX3, 35, yX9_faultOfRange, "EyeStage"), (RX5, 59, yX9_faultOfRange, "EyeStage")]
def nwF : List (String × Nat × String × String × String × String) := [(RX4, 56, RX9, "WORDS", "[LEyeStage$Word;", "EyeStage"), (RX5, 53, RX9, "LEAST_SETTING", "[I", "EyeStage"), (RX5, 56, RX9, "GREATEST_SETTING", "[I", "EyeStage")]
end
section
/-! MY OWN FRAME: memory as integers, objects and arrays by ids, one judgement J, one rule an instruction -/
abbrev MM : Type := Nat → Int → Int
abbrev vI (x : Int) : Value := .int (Int32.ofInt x)
abbrev vL (x : Int) : Value := .long (Int64.ofInt x)
abbrev i32 (x : Int) : Prop := -2147483648 ≤ x ∧ x ≤ 2147483647
def mset (M : MM) (i : Nat) (j x : Int) : MM := fun i' j' => if i' = i ∧ j' = j then x else M i' j'
def bI (P : Prop) [Decidable P] : Int := if P then 1 else 0
theorem bI_t {P : Prop} [Decidable P] (h : P) : bI P = 1 := if_pos h
theorem bI_f {P : Prop} [Decidable P] (h : ¬ P) : bI P = 0 := if_neg h
theorem bI_01 (P : Prop) [Decidable P] : bI P = 0 ∨ bI P = 1 := by unfold bI; split <;> simp
theorem bI_1 {P : Prop} [Decidable P] : bI P = 1 ↔ P := by unfold bI; split <;> simp [*]
theorem bI_0 {P : Prop} [Decidable P] : bI P = 0 ↔ ¬ P := by unfold bI; split <;> simp [*]
theorem bI_c {P Q : Prop} [Decidable P] [Decidable Q] (h : P ↔ Q) : bI P = bI Q := by unfold bI; by_cases q : Q <;> simp [h, q]
/- numbers -/
theorem oi_t {a : Int} (h : i32 a) : (Int32.ofInt a).toInt = a := Int32.toInt_ofInt_of_le (by omega) (by omega)
theorem oi_lt {a b : Int} (ha : i32 a) (hb : i32 b) : Int32.ofInt a < Int32.ofInt b ↔ a < b := by rw [Int32.lt_iff_toInt_lt, oi_t ha, oi_t hb]
theorem oi_le {a b : Int} (ha : i32 a) (hb : i32 b) : Int32.ofInt a ≤ Int32.ofInt b ↔ a ≤ b := by rw [Int32.le_iff_toInt_le, oi_t ha, oi_t hb]
theorem oi_eq {a b : Int} (ha : i32 a) (hb : i32 b) : Int32.ofInt a = Int32.ofInt b ↔ a = b := by rw [← Int32.toInt_inj, oi_t ha, oi_t hb]
theorem oi_0 : (0 : Int32) = Int32.ofInt 0 := rfl
theorem oi_cl {a : Int} (h : i32 a) : (Int32.ofInt a).toNatClampNeg = a.toNat := Int32.toNatClampNeg_ofInt_of_le (by omega) (by omega)
theorem oi_in {j : Int} {n : Nat} (h0 : 0 ≤ j) (h1 : j < n) (hn : n < 2147483648) : vp_in (Int32.ofInt j) n := by
  rw [vp_in_iff, oi_t (by omega)]
  exact ⟨h0, h1⟩
theorem oi_minV : Int32.minValue.toInt = -2147483648 := rfl
theorem oi_maxV : Int32.maxValue.toInt = 2147483647 := rfl
theorem oi_cast {j : Int} (h : 0 ≤ j) : ((j.toNat : Nat) : Int) = j := by omega
/- values -/
def cv (ad : Nat → Nat) : Value → Value
  | .ref i => .ref (ad i)
  | v => v
theorem cv_cat (ad : Nat → Nat) (v : Value) : (cv ad v).category = v.category := by cases v <;> rfl
theorem cv_cats (ad : Nat → Nat) (st : List Value) : ((st.map (cv ad)).map fun v => v.category) = st.map fun v => v.category := by
  rw [List.map_map]; exact List.map_congr_left (fun v _ => cv_cat ad v)
/- locals -/
def mlv (ad : Nat → Nat) (L : List (Nat × Value)) : List (Nat × Value) := L.map (fun q => (q.1, cv ad q.2))
def lget : List (Nat × Value) → Nat → Option Value
  | [], _ => none
  | q :: t, i => if q.1 == i then some q.2 else lget t i
def lset (L : List (Nat × Value)) (i : Nat) (v : Value) : List (Nat × Value) := (i, v) :: L.filter (fun q => !(q.1 == i) && !(q.1 + 1 == i && q.2.category == 2))
def lset2 (L : List (Nat × Value)) (i : Nat) (v : Value) : List (Nat × Value) := (i, v) :: L.filter (fun q => !(q.1 == i) && (!(q.1 == i + 1) && !(q.1 + 1 == i && q.2.category == 2)))
theorem lget_mem {L : List (Nat × Value)} {i : Nat} {v : Value} (h : lget L i = some v) : (i, v) ∈ L := by
  induction L with
  | nil => cases h
  | cons q t ih =>
    unfold lget at h
    split at h
    · rename_i hq
      have := beq_iff_eq.mp hq
      cases h
      subst this
      exact List.mem_cons_self
    · exact List.mem_cons_of_mem _ (ih h)
theorem lget_at {ad : Nat → Nat} {ls : Array Slot} {n : Nat} {L : List (Nat × Value)} {i : Nat} {v : Value} (h : lv_has ls n (mlv ad L)) (hl : lget L i = some v) : ls[i]? = some (.val (cv ad v)) :=
  h.2.2 (i, cv ad v) (List.mem_map.mpr ⟨(i, v), lget_mem hl, rfl⟩)
theorem mlv_place {ad : Nat → Nat} {L : List (Nat × Value)} {i : Nat} {v : Value} (hl : lget L i = some v) : ∃ k : Nat, (mlv ad L)[k]? = some (i, cv ad v) := by
  obtain ⟨k, hk, e⟩ := List.getElem_of_mem (lget_mem hl)
  exact ⟨k, by unfold mlv; rw [List.getElem?_map, List.getElem?_eq_getElem hk, e]; rfl⟩
theorem mlv_lset (ad : Nat → Nat) (L : List (Nat × Value)) (i : Nat) (v : Value) : (i, cv ad v) :: (mlv ad L).filter (fun q => !(q.1 == i) && !(q.1 + 1 == i && q.2.category == 2)) = mlv ad (lset L i v) := by
  unfold mlv lset
  rw [List.map_cons, List.filter_map]
  congr 2
  apply List.filter_congr
  intro q _
  simp only [Function.comp, cv_cat]
theorem mlv_lset2 (ad : Nat → Nat) (L : List (Nat × Value)) (i : Nat) (v : Value) : (i, cv ad v) :: (mlv ad L).filter (fun q => !(q.1 == i) && (!(q.1 == i + 1) && !(q.1 + 1 == i && q.2.category == 2))) = mlv ad (lset2 L i v) := by
  unfold mlv lset2
  rw [List.map_cons, List.filter_map]
  congr 2
  apply List.filter_congr
  intro q _
  simp only [Function.comp, cv_cat]
theorem mlv_sub {ad : Nat → Nat} {ls : Array Slot} {n : Nat} {L L' : List (Nat × Value)} (h : lv_has ls n (mlv ad L)) (hs : L'.map (fun q => lget L q.1) = L'.map (fun q => some q.2)) : lv_has ls n (mlv ad L') := by
  refine ⟨h.1, h.2.1, fun q hq => ?_⟩
  obtain ⟨q0, h0, rfl⟩ := List.mem_map.mp hq
  have hm : ∀ q ∈ L', lget L q.1 = some q.2 := by
    intro q hq
    exact List.map_inj_left.mp hs q hq
  exact lget_at h (hm q0 h0)
/- the environment of the whole run: where classes lie, the array classes, the heap at the law's start, the enum's constants -/
abbrev EE : Type := va_G × (ClassId × ClassId × ClassId × ClassId) × Heap × (Nat → Nat)
def tys (E : EE) : List (ClassId × FieldType) := [(E.2.1.1, .int), (E.2.1.2.1, .object RX5), (E.2.1.2.2.1, .long), (E.2.1.2.2.2, .double)]
abbrev sz0 (E : EE) : Nat := E.2.2.1.size
/-- structural fields: a reference to the id that lies so far behind -/
def ro : Nat → Nat → Option Nat
  | 1, 1 => some 1
  | 2, 0 => some 1 | 2, 1 => some 2 | 2, 2 => some 17 | 2, 3 => some 18 | 2, 4 => some 19 | 2, 5 => some 20 | 2, 6 => some 21 | 2, 7 => some 22 | 2, 8 => some 23
  | 3, 4 => some 1 | 3, 5 => some 2 | 3, 6 => some 3
  | 4, 1 => some 1 | 4, 2 => some 2
  | 5, 0 => some 1 | 5, 1 => some 11 | 5, 2 => some 15
  | 6, 1 => some 1 | 6, 2 => some 2 | 6, 3 => some 3 | 6, 4 => some 4 | 6, 5 => some 5 | 6, 6 => some 6 | 6, 7 => some 7 | 6, 8 => some 8 | 6, 9 => some 9
  | 7, 0 => some 1 | 7, 1 => some 2 | 7, 2 => some 3 | 7, 7 => some 25 | 7, 8 => some 26
  | 8, 0 => some 1 | 8, 1 => some 3 | 8, 2 => some 28 | 8, 3 => some 30 | 8, 4 => some 55 | 8, 5 => some 57
  | 9, 0 => some 1 | 9, 1 => some 2 | 9, 2 => some 3 | 9, 4 => some 4 | 9, 7 => some 5 | 9, 8 => some 6 | 9, 9 => some 7 | 9, 10 => some 8 | 9, 11 => some 9 | 9, 13 => some 10 | 9, 22 => some 11
  | _, _ => none
def nf (k : Nat) : Nat := match k with
  | 1 => 2 | 2 => 11 | 3 => 7 | 4 => 5 | 5 => 8 | 6 => 10 | 7 => 10 | 8 => 7 | 9 => 24 | _ => 0
def fv (E : EE) (ad : Nat → Nat) (k i f : Nat) (M : MM) : Value :=
  match ro k f with
  | some o => .ref (ad (i + o))
  | none => if k = 9 ∧ f = 23 then vL (M i f) else if k = 4 ∧ f = 4 then (if M i 4 < 0 then .null else .ref (E.2.2.2 (M i 4).toNat)) else vI (M i f)
def ce (E : EE) (ad : Nat → Nat) (k i : Nat) (M : MM) : va_E :=
  if k < 10 then .inr (k - 1, (List.range (nf k)).map (fun f => fv E ad k i f M))
  else if k = 10 then .inl (E.2.1.2.1, 4, .inr (.inr (.inr (.inr (fun j => if M i j < 0 then none else some (ad (M i j).toNat))))))
  else if k = 11 then .inl (E.2.1.2.2.1, 1, .inr (.inl (fun j => Int64.ofInt (M i j))))
  else if k = 12 then .inl (E.2.1.2.2.2, 1, .inr (.inr (.inr (.inl (fun j => UInt64.ofNat (M i j).toNat)))))
  else .inl (E.2.1.1, k - 1000, .inl (fun j => Int32.ofInt (M i j)))
def rg (k : Nat) (j x : Int) : Prop := (k = 11 ∨ k = 12 ∨ (k = 9 ∧ j = 23)) ∨ i32 x
def Rep (E : EE) (ad K : Nat → Nat) (M : MM) (H : Heap) : Prop :=
  (∀ i, K i ≠ 0 → va_at E.1 vwCl (ad i, ce E ad (K i) i M) H) ∧ (∀ i j, K i ≠ 0 → K j ≠ 0 → ad i = ad j → i = j) ∧ (∀ i, K i ≠ 0 → sz0 E ≤ ad i) ∧
  (sz0 E ≤ H.size ∧ ∀ q : Nat, q < sz0 E → H[q]? = E.2.2.1[q]?) ∧ (∀ i j, K i ≠ 0 → rg (K i) j (M i j))
/-- the words of calls and fields between nest mates -/
def KN (U : State) : Prop := (∀ q ∈ nwM, va_Nw (.methodLinkNest q.1 q.2.1 q.2.2.1 q.2.2.2) U) ∧ ∀ q ∈ nwF, va_Nw (.fieldLinkNest q.1 q.2.1 q.2.2.1 q.2.2.2.1 q.2.2.2.2.1 q.2.2.2.2.2) U
theorem KN_warm {s U : State} (hW : s.WarmedH U.vm) (h : KN s) : KN U := ⟨fun q hq => va_Nw.warmM hW (h.1 q hq), fun q hq => va_Nw.warmF hW (h.2 q hq)⟩
theorem KN_same {u U : State} (hv : u.vm = U.vm) (h : KN u) : KN U := ⟨fun q hq => va_Nw.same rfl hv (h.1 q hq), fun q hq => va_Nw.same rfl hv (h.2 q hq)⟩
/-- what is known of the statics -/
def SF (E : EE) (U : State) : Prop := E.1 = E.1 ∨ U.heap = U.heap
theorem SF_alike {E : EE} {u U : State} (hv : u.vm.Alike U.vm) (h : SF E u) : SF E U := Or.inl rfl
/-- what is known of the classes -/
def KF (E : EE) (U : State) : Prop := va_K E.1 vwCl (tys E) U ∧ KN U ∧ SF E U
theorem KF_warm {E : EE} {s U : State} (hW : s.WarmedH U.vm) (h : KF E s) : KF E U := ⟨va_K.moved hW.alike h.1, KN_warm hW h.2.1, SF_alike hW.alike h.2.2⟩
theorem KF_same {E : EE} {u U : State} (hv : u.vm = U.vm) (h : KF E u) : KF E U := ⟨va_K.moved (hv ▸ Vm.Alike.refl u.vm) h.1, KN_same hv h.2.1, SF_alike (hv ▸ Vm.Alike.refl u.vm) h.2.2⟩
/-- the ids that were live keep their places; no new ids, no other places -/
def adE (K0 ad0 K ad : Nat → Nat) : Prop := (∀ i, K0 i ≠ 0 → ad i = ad0 i) ∧ (K = K0 → ad = ad0)
/- the walk's fixed things -/
abbrev JX : Type := Program × Launch × Env × Room × State × MethodId × Array Value × List Frame × Method × Code × (State → Prop) × Nat × (Nat → Nat) × (Nat → Nat)
def J (E : EE) (X : JX) (pc : Nat) (L : List (Nat × Value)) (st : List Value) (K : Nat → Nat) (M : MM) (a b : Nat) : Prop :=
  match X with
  | (p, l, e, R, s, m, args, below, meth, c, Q, nL, K0, ad0) => ∀ (ad : Nat → Nat) (H : Heap) (locs : List Loc) (ls : Array Slot), Rep E ad K M H → adE K0 ad0 K ad → (∀ z ∈ locs, sz0 E ≤ z.base) → lv_has ls nL (mlv ad L) →
    W p l e R s m args below meth c H locs a b Q (F0 m pc ls (st.map (cv ad)))
def XO (E : EE) (X : JX) (cc : ByteArray) (own : String) (nl d c0 s0 : Nat) : Prop :=
  match X with
  | (p, l, e, R, s, m, args, below, meth, c, Q, nL, K0, ad0) => p.tables.exec = Jvm.exec ∧ c.code = cc ∧ (c.maxLocals = nL ∧ nL = nl) ∧ s.vm.findClass own = some m.cls ∧ (∀ w ∈ tb, w.before args s = true) ∧ (d ≤ R.frames ∧ 37 * d ≤ R.locals ∧ c0 ≤ R.cells ∧ s0 ≤ R.slots) ∧ KF E s
/-- a method's end: an answer, a memory -/
def CQ (E : EE) (ad0 K0 : Nat → Nat) (post : Option Value → (Nat → Nat) → MM → Prop) : Array Value → State → Outcome → State → Prop := fun _ st oc t =>
  ∃ (r : Option Value) (K' : Nat → Nat) (M' : MM) (ad' : Nat → Nat), oc = .returned (r.map (cv ad')) ∧ post r K' M' ∧ Rep E ad' K' M' t.heap ∧ adE K0 ad0 K' ad'
def XQ (E : EE) (X : JX) (rt : Option FieldType) (post : Option Value → (Nat → Nat) → MM → Prop) (c0 s0 : Nat) : Prop :=
  match X with
  | (p, l, e, R, s, m, args, below, meth, c, Q, nL, K0, ad0) => meth.sig.returnType = rt ∧ meth.locks = false ∧ Q = MQ below (CQ E ad0 K0 post) args s c0 s0 (fun q => sz0 E ≤ q)
def ww (y : MethodName) (cc : ByteArray) (n : Nat) (ret : Option FieldType) : List Cond := .code y cc n ret :: tb
def rmD (d mc ms : Nat) : Room := { frames := d, cells := mc, slots := ms, locals := 37 * d }
/-- a contract: the call of y on the arguments av in the memory M, K answers by post -/
def Cn (E : EE) (d : Nat) (y : MethodName) (cc : ByteArray) (n : Nat) (ret : Option FieldType) (av : List Value) (K : Nat → Nat) (M : MM) (post : Option Value → (Nat → Nat) → MM → Prop) (mc ms : Nat) : Prop :=
  ∀ (l : Launch) (ad : Nat → Nat), Met l y (ww y cc n ret) (rmD d mc ms) (va_Pc (av.map (cv ad)) (fun U => Rep E ad K M U.heap ∧ KF E U)) (CQ E ad K post) mc ms (fun q => sz0 E ≤ q)
/-- a reading contract: memory and ids stay -/
def CnP (E : EE) (d : Nat) (y : MethodName) (cc : ByteArray) (n : Nat) (ret : Option FieldType) (av : List Value) (K : Nat → Nat) (M : MM) (r : Option Value) : Prop :=
  Cn E d y cc n ret av K M (fun r' K' M' => r' = r ∧ K' = K ∧ M' = M) 0 0

section RULES
variable {E : EE} {X : JX} {cc : ByteArray} {own : String} {nl d c0 s0 : Nat} {pc : Nat} {L : List (Nat × Value)} {st : List Value} {K : Nat → Nat} {M : MM} {a b : Nat}
theorem J_iload_n (hX : XO E X cc own nl d c0 s0) {k : Fin 4} {v : Int} (hd : decode cc pc = .ok (.iload_n k, 1)) (hl : lget L k.val = some (vI v)) (k1 : J E X (pc + 1) L ((vI v) :: st) K M a b) : J E X pc L st K M a b := by
  obtain ⟨p, l, e, R, s, m, args, below, meth, c, Q, nL, K0, ad0⟩ := X
  intro ad H locs ls hR he hs hv
  exact lv_iload_n hX.1 hX.2.1 hd rfl (lget_at hv hl) (k1 ad H locs ls hR he hs hv)
theorem J_iload (hX : XO E X cc own nl d c0 s0) {i : Nat} {v : Int} (hd : decode cc pc = .ok (.iload i, 2)) (hl : lget L i = some (vI v)) (k1 : J E X (pc + 2) L ((vI v) :: st) K M a b) : J E X pc L st K M a b := by
  obtain ⟨p, l, e, R, s, m, args, below, meth, c, Q, nL, K0, ad0⟩ := X
  intro ad H locs ls hR he hs hv
  exact lv_iload hX.1 hX.2.1 hd (lget_at hv hl) (k1 ad H locs ls hR he hs hv)
theorem J_aload_n (hX : XO E X cc own nl d c0 s0) {k : Fin 4} {v : Nat} (hd : decode cc pc = .ok (.aload_n k, 1)) (hl : lget L k.val = some (.ref v)) (k1 : J E X (pc + 1) L ((.ref v) :: st) K M a b) : J E X pc L st K M a b := by
  obtain ⟨p, l, e, R, s, m, args, below, meth, c, Q, nL, K0, ad0⟩ := X
  intro ad H locs ls hR he hs hv
  exact lv_aload_n hX.1 hX.2.1 hd rfl (lget_at hv hl) (k1 ad H locs ls hR he hs hv)
theorem J_aload (hX : XO E X cc own nl d c0 s0) {i : Nat} {v : Nat} (hd : decode cc pc = .ok (.aload i, 2)) (hl : lget L i = some (.ref v)) (k1 : J E X (pc + 2) L ((.ref v) :: st) K M a b) : J E X pc L st K M a b := by
  obtain ⟨p, l, e, R, s, m, args, below, meth, c, Q, nL, K0, ad0⟩ := X
  intro ad H locs ls hR he hs hv
  exact lv_aload hX.1 hX.2.1 hd (lget_at hv hl) (k1 ad H locs ls hR he hs hv)
theorem J_lload_n (hX : XO E X cc own nl d c0 s0) {k : Fin 4} {v : Int} (hd : decode cc pc = .ok (.lload_n k, 1)) (hl : lget L k.val = some (vL v)) (k1 : J E X (pc + 1) L ((vL v) :: st) K M a b) : J E X pc L st K M a b := by
  obtain ⟨p, l, e, R, s, m, args, below, meth, c, Q, nL, K0, ad0⟩ := X
  intro ad H locs ls hR he hs hv
  exact lv_lload_n hX.1 hX.2.1 hd rfl (lget_at hv hl) (k1 ad H locs ls hR he hs hv)
theorem J_lload (hX : XO E X cc own nl d c0 s0) {i : Nat} {v : Int} (hd : decode cc pc = .ok (.lload i, 2)) (hl : lget L i = some (vL v)) (k1 : J E X (pc + 2) L ((vL v) :: st) K M a b) : J E X pc L st K M a b := by
  obtain ⟨p, l, e, R, s, m, args, below, meth, c, Q, nL, K0, ad0⟩ := X
  intro ad H locs ls hR he hs hv
  exact lv_lload hX.1 hX.2.1 hd (lget_at hv hl) (k1 ad H locs ls hR he hs hv)
theorem J_iconst (hX : XO E X cc own nl d c0 s0) {n : Int} (hd : decode cc pc = .ok (.iconst n, 1)) (k1 : J E X (pc + 1) L (vI n :: st) K M a b) : J E X pc L st K M a b := by
  obtain ⟨p, l, e, R, s, m, args, below, meth, c, Q, nL, K0, ad0⟩ := X
  intro ad H locs ls hR he hs hv
  exact lv_iconst hX.1 hX.2.1 hd rfl (k1 ad H locs ls hR he hs hv)
theorem J_bipush (hX : XO E X cc own nl d c0 s0) {n : Int} (hd : decode cc pc = .ok (.bipush n, 2)) (hn : (Int8.ofInt n).toInt32 = Int32.ofInt n) (k1 : J E X (pc + 2) L (vI n :: st) K M a b) : J E X pc L st K M a b := by
  obtain ⟨p, l, e, R, s, m, args, below, meth, c, Q, nL, K0, ad0⟩ := X
  intro ad H locs ls hR he hs hv
  exact lv_bipush hX.1 hX.2.1 hd hn (k1 ad H locs ls hR he hs hv)
theorem J_sipush (hX : XO E X cc own nl d c0 s0) {n : Int} (hd : decode cc pc = .ok (.sipush n, 3)) (hn : (Int16.ofInt n).toInt32 = Int32.ofInt n) (k1 : J E X (pc + 3) L (vI n :: st) K M a b) : J E X pc L st K M a b := by
  obtain ⟨p, l, e, R, s, m, args, below, meth, c, Q, nL, K0, ad0⟩ := X
  intro ad H locs ls hR he hs hv
  exact lv_sipush hX.1 hX.2.1 hd hn (k1 ad H locs ls hR he hs hv)
theorem J_istore_n (hX : XO E X cc own nl d c0 s0) {k : Fin 4} {v : Int} (hd : decode cc pc = .ok (.istore_n k, 1)) (hi : k.val < nl) (k1 : J E X (pc + 1) (lset L k.val (vI v)) st K M a b) : J E X pc L ((vI v) :: st) K M a b := by
  obtain ⟨p, l, e, R, s, m, args, below, meth, c, Q, nL, K0, ad0⟩ := X
  intro ad H locs ls hR he hs hv
  exact lv_istore_n hX.1 hX.2.1 hd rfl hv (by rw [hX.2.2.1.2]; exact hi) (mlv_lset ad L k.val (vI v)) (fun ls2 h2 => k1 ad H locs ls2 hR he hs h2)
theorem J_istore (hX : XO E X cc own nl d c0 s0) {i : Nat} {v : Int} (hd : decode cc pc = .ok (.istore i, 2)) (hi : i < nl) (k1 : J E X (pc + 2) (lset L i (vI v)) st K M a b) : J E X pc L ((vI v) :: st) K M a b := by
  obtain ⟨p, l, e, R, s, m, args, below, meth, c, Q, nL, K0, ad0⟩ := X
  intro ad H locs ls hR he hs hv
  exact lv_istore hX.1 hX.2.1 hd hv (by rw [hX.2.2.1.2]; exact hi) (mlv_lset ad L i (vI v)) (fun ls2 h2 => k1 ad H locs ls2 hR he hs h2)
theorem J_astore_n (hX : XO E X cc own nl d c0 s0) {k : Fin 4} {v : Nat} (hd : decode cc pc = .ok (.astore_n k, 1)) (hi : k.val < nl) (k1 : J E X (pc + 1) (lset L k.val (.ref v)) st K M a b) : J E X pc L ((.ref v) :: st) K M a b := by
  obtain ⟨p, l, e, R, s, m, args, below, meth, c, Q, nL, K0, ad0⟩ := X
  intro ad H locs ls hR he hs hv
  exact lv_astore_n hX.1 hX.2.1 hd rfl hv (by rw [hX.2.2.1.2]; exact hi) (mlv_lset ad L k.val (.ref v)) (fun ls2 h2 => k1 ad H locs ls2 hR he hs h2)
theorem J_astore (hX : XO E X cc own nl d c0 s0) {i : Nat} {v : Nat} (hd : decode cc pc = .ok (.astore i, 2)) (hi : i < nl) (k1 : J E X (pc + 2) (lset L i (.ref v)) st K M a b) : J E X pc L ((.ref v) :: st) K M a b := by
  obtain ⟨p, l, e, R, s, m, args, below, meth, c, Q, nL, K0, ad0⟩ := X
  intro ad H locs ls hR he hs hv
  exact lv_astore hX.1 hX.2.1 hd hv (by rw [hX.2.2.1.2]; exact hi) (mlv_lset ad L i (.ref v)) (fun ls2 h2 => k1 ad H locs ls2 hR he hs h2)
theorem J_iinc (hX : XO E X cc own nl d c0 s0) {i : Nat} {n v : Int} (hd : decode cc pc = .ok (.iinc i n, 3)) (hl : lget L i = some (vI v)) (hi : i < nl) (k1 : J E X (pc + 3) (lset L i (vI (v + n))) st K M a b) : J E X pc L st K M a b := by
  obtain ⟨p, l, e, R, s, m, args, below, meth, c, Q, nL, K0, ad0⟩ := X
  intro ad H locs ls hR he hs hv
  obtain ⟨k, hk⟩ := mlv_place (ad := ad) hl
  exact lv_iinc hX.1 hX.2.1 hd hv hk (Int32.ofInt_add v n).symm (by rw [hX.2.2.1.2]; exact hi) (mlv_lset ad L i (vI (v + n))) (fun ls2 h2 => k1 ad H locs ls2 hR he hs h2)
theorem J_iadd (hX : XO E X cc own nl d c0 s0) {x y : Int} (hd : decode cc pc = .ok (.iadd, 1)) (k1 : J E X (pc + 1) L (vI (x + y) :: st) K M a b) : J E X pc L (vI y :: vI x :: st) K M a b := by
  obtain ⟨p, l, e, R, s, m, args, below, meth, c, Q, nL, K0, ad0⟩ := X
  intro ad H locs ls hR he hs hv
  refine lv_iadd hX.1 hX.2.1 hd ?_
  rw [← Int32.ofInt_add]
  exact k1 ad H locs ls hR he hs hv
theorem J_isub (hX : XO E X cc own nl d c0 s0) {x y : Int} (hd : decode cc pc = .ok (.isub, 1)) (k1 : J E X (pc + 1) L (vI (x - y) :: st) K M a b) : J E X pc L (vI y :: vI x :: st) K M a b := by
  obtain ⟨p, l, e, R, s, m, args, below, meth, c, Q, nL, K0, ad0⟩ := X
  intro ad H locs ls hR he hs hv
  refine lv_isub hX.1 hX.2.1 hd ?_
  rw [← Int32.ofInt_sub]
  exact k1 ad H locs ls hR he hs hv
theorem J_imul (hX : XO E X cc own nl d c0 s0) {x y : Int} (hd : decode cc pc = .ok (.imul, 1)) (k1 : J E X (pc + 1) L (vI (x * y) :: st) K M a b) : J E X pc L (vI y :: vI x :: st) K M a b := by
  obtain ⟨p, l, e, R, s, m, args, below, meth, c, Q, nL, K0, ad0⟩ := X
  intro ad H locs ls hR he hs hv
  refine lv_imul hX.1 hX.2.1 hd ?_
  rw [← Int32.ofInt_mul]
  exact k1 ad H locs ls hR he hs hv
theorem J_ineg (hX : XO E X cc own nl d c0 s0) {x : Int} (hd : decode cc pc = .ok (.ineg, 1)) (k1 : J E X (pc + 1) L (vI (-x) :: st) K M a b) : J E X pc L (vI x :: st) K M a b := by
  obtain ⟨p, l, e, R, s, m, args, below, meth, c, Q, nL, K0, ad0⟩ := X
  intro ad H locs ls hR he hs hv
  refine lv_ineg hX.1 hX.2.1 hd ?_
  rw [← Int32.ofInt_neg]
  exact k1 ad H locs ls hR he hs hv
theorem J_idiv (hX : XO E X cc own nl d c0 s0) {x y : Int} (hd : decode cc pc = .ok (.idiv, 1)) (hx : i32 x) (hy : 0 < y ∧ y ≤ 2147483647) (k1 : J E X (pc + 1) L (vI (x.tdiv y) :: st) K M a b) : J E X pc L (vI y :: vI x :: st) K M a b := by
  obtain ⟨p, l, e, R, s, m, args, below, meth, c, Q, nL, K0, ad0⟩ := X
  intro ad H locs ls hR he hs hv
  refine lv_idiv hX.1 hX.2.1 hd (fun h => ?_) ?_
  · have h2 : y = 0 := (oi_eq (by omega) (by omega)).mp (h.trans oi_0)
    omega
  · rw [← Int32.ofInt_tdiv (by rw [oi_minV]; omega) (by rw [oi_maxV]; omega) (by rw [oi_minV]; omega) (by rw [oi_maxV]; omega)]
    exact k1 ad H locs ls hR he hs hv
theorem J_irem (hX : XO E X cc own nl d c0 s0) {x y : Int} (hd : decode cc pc = .ok (.irem, 1)) (hx : i32 x) (hy : 0 < y ∧ y ≤ 2147483647) (k1 : J E X (pc + 1) L (vI (x.tmod y) :: st) K M a b) : J E X pc L (vI y :: vI x :: st) K M a b := by
  obtain ⟨p, l, e, R, s, m, args, below, meth, c, Q, nL, K0, ad0⟩ := X
  intro ad H locs ls hR he hs hv
  refine lv_irem hX.1 hX.2.1 hd (fun h => ?_) ?_
  · have h2 : y = 0 := (oi_eq (by omega) (by omega)).mp (h.trans oi_0)
    omega
  · rw [← Int32.ofInt_tdiv (by rw [oi_minV]; omega) (by rw [oi_maxV]; omega) (by rw [oi_minV]; omega) (by rw [oi_maxV]; omega), ← Int32.ofInt_mul, ← Int32.ofInt_sub, show x - x.tdiv y * y = x.tmod y by rw [Int.tmod_def, Int.mul_comm]]
    exact k1 ad H locs ls hR he hs hv
theorem J_dup (hX : XO E X cc own nl d c0 s0) {v : Value} (hd : decode cc pc = .ok (.dup, 1)) (hc : v.category = 1) (k1 : J E X (pc + 1) L (v :: v :: st) K M a b) : J E X pc L (v :: st) K M a b := by
  obtain ⟨p, l, e, R, s, m, args, below, meth, c, Q, nL, K0, ad0⟩ := X
  intro ad H locs ls hR he hs hv
  exact lv_dup hX.1 hX.2.1 hd ((cv_cat ad v).trans hc) (k1 ad H locs ls hR he hs hv)
theorem J_pop (hX : XO E X cc own nl d c0 s0) {v : Value} (hd : decode cc pc = .ok (.pop, 1)) (hc : v.category = 1) (k1 : J E X (pc + 1) L st K M a b) : J E X pc L (v :: st) K M a b := by
  obtain ⟨p, l, e, R, s, m, args, below, meth, c, Q, nL, K0, ad0⟩ := X
  intro ad H locs ls hR he hs hv
  exact lv_pop hX.1 hX.2.1 hd ((cv_cat ad v).trans hc) (k1 ad H locs ls hR he hs hv)
theorem J_goto (hX : XO E X cc own nl d c0 s0) {off : Int} (t : Nat) (hd : decode cc pc = .ok (.goto off, 3)) (ht : (pc : Int) + off = (t : Int)) (k1 : J E X t L st K M a b) : J E X pc L st K M a b := by
  obtain ⟨p, l, e, R, s, m, args, below, meth, c, Q, nL, K0, ad0⟩ := X
  intro ad H locs ls hR he hs hv
  exact lv_goto hX.1 hX.2.1 hd ht (k1 ad H locs ls hR he hs hv)
theorem J_dup2 (hX : XO E X cc own nl d c0 s0) {v w : Value} (hd : decode cc pc = .ok (.dup2, 1)) (hc : v.category = 1 ∧ w.category = 1) (k1 : J E X (pc + 1) L (v :: w :: v :: w :: st) K M a b) : J E X pc L (v :: w :: st) K M a b := by
  obtain ⟨p, l, e, R, s, m, args, below, meth, c, Q, nL, K0, ad0⟩ := X
  intro ad H locs ls hR he hs hv
  exact lv_dup2_11 hX.1 hX.2.1 hd ((cv_cat ad v).trans hc.1) ((cv_cat ad w).trans hc.2) (k1 ad H locs ls hR he hs hv)
theorem J_if_eq (hX : XO E X cc own nl d c0 s0) {x : Int} {off : Int} (t : Nat) (hd : decode cc pc = .ok (.ifCond .eq off, 3)) (hx : i32 x) (ht : (pc : Int) + off = (t : Int)) (kt : x = 0 → J E X t L st K M a b) (kf : ¬ x = 0 → J E X (pc + 3) L st K M a b) : J E X pc L (vI x :: st) K M a b := by
  obtain ⟨p, l, e, R, s, m, args, below, meth, c, Q, nL, K0, ad0⟩ := X
  intro ad H locs ls hR he hs hv
  have e := (oi_eq (b := 0) hx (by omega))
  refine lv_if_eq hX.1 hX.2.1 hd ht (fun h => ?_) (fun h => ?_)
  · exact kt (e.mp h) ad H locs ls hR he hs hv
  · exact kf (fun q => h (e.mpr q)) ad H locs ls hR he hs hv
theorem J_icmp_eq (hX : XO E X cc own nl d c0 s0) {x y : Int} {off : Int} (t : Nat) (hd : decode cc pc = .ok (.if_icmp .eq off, 3)) (hx : i32 x) (hy : i32 y) (ht : (pc : Int) + off = (t : Int)) (kt : x = y → J E X t L st K M a b) (kf : ¬ x = y → J E X (pc + 3) L st K M a b) : J E X pc L (vI y :: vI x :: st) K M a b := by
  obtain ⟨p, l, e, R, s, m, args, below, meth, c, Q, nL, K0, ad0⟩ := X
  intro ad H locs ls hR he hs hv
  have e := (oi_eq hx hy)
  refine lv_icmp_eq hX.1 hX.2.1 hd ht (fun h => ?_) (fun h => ?_)
  · exact kt (e.mp h) ad H locs ls hR he hs hv
  · exact kf (fun q => h (e.mpr q)) ad H locs ls hR he hs hv
theorem J_if_ne (hX : XO E X cc own nl d c0 s0) {x : Int} {off : Int} (t : Nat) (hd : decode cc pc = .ok (.ifCond .ne off, 3)) (hx : i32 x) (ht : (pc : Int) + off = (t : Int)) (kt : ¬ x = 0 → J E X t L st K M a b) (kf : x = 0 → J E X (pc + 3) L st K M a b) : J E X pc L (vI x :: st) K M a b := by
  obtain ⟨p, l, e, R, s, m, args, below, meth, c, Q, nL, K0, ad0⟩ := X
  intro ad H locs ls hR he hs hv
  have e := (oi_eq (b := 0) hx (by omega))
  refine lv_if_ne hX.1 hX.2.1 hd ht (fun h => ?_) (fun h => ?_)
  · exact kt (fun q => h (e.mpr q)) ad H locs ls hR he hs hv
  · exact kf (e.mp h) ad H locs ls hR he hs hv
theorem J_icmp_ne (hX : XO E X cc own nl d c0 s0) {x y : Int} {off : Int} (t : Nat) (hd : decode cc pc = .ok (.if_icmp .ne off, 3)) (hx : i32 x) (hy : i32 y) (ht : (pc : Int) + off = (t : Int)) (kt : ¬ x = y → J E X t L st K M a b) (kf : x = y → J E X (pc + 3) L st K M a b) : J E X pc L (vI y :: vI x :: st) K M a b := by
  obtain ⟨p, l, e, R, s, m, args, below, meth, c, Q, nL, K0, ad0⟩ := X
  intro ad H locs ls hR he hs hv
  have e := (oi_eq hx hy)
  refine lv_icmp_ne hX.1 hX.2.1 hd ht (fun h => ?_) (fun h => ?_)
  · exact kt (fun q => h (e.mpr q)) ad H locs ls hR he hs hv
  · exact kf (e.mp h) ad H locs ls hR he hs hv
theorem J_if_lt (hX : XO E X cc own nl d c0 s0) {x : Int} {off : Int} (t : Nat) (hd : decode cc pc = .ok (.ifCond .lt off, 3)) (hx : i32 x) (ht : (pc : Int) + off = (t : Int)) (kt : x < 0 → J E X t L st K M a b) (kf : ¬ x < 0 → J E X (pc + 3) L st K M a b) : J E X pc L (vI x :: st) K M a b := by
  obtain ⟨p, l, e, R, s, m, args, below, meth, c, Q, nL, K0, ad0⟩ := X
  intro ad H locs ls hR he hs hv
  have e := (oi_lt (b := 0) hx (by omega))
  refine lv_if_lt hX.1 hX.2.1 hd ht (fun h => ?_) (fun h => ?_)
  · exact kt (e.mp h) ad H locs ls hR he hs hv
  · exact kf (fun q => h (e.mpr q)) ad H locs ls hR he hs hv
theorem J_icmp_lt (hX : XO E X cc own nl d c0 s0) {x y : Int} {off : Int} (t : Nat) (hd : decode cc pc = .ok (.if_icmp .lt off, 3)) (hx : i32 x) (hy : i32 y) (ht : (pc : Int) + off = (t : Int)) (kt : x < y → J E X t L st K M a b) (kf : ¬ x < y → J E X (pc + 3) L st K M a b) : J E X pc L (vI y :: vI x :: st) K M a b := by
  obtain ⟨p, l, e, R, s, m, args, below, meth, c, Q, nL, K0, ad0⟩ := X
  intro ad H locs ls hR he hs hv
  have e := (oi_lt hx hy)
  refine lv_icmp_lt hX.1 hX.2.1 hd ht (fun h => ?_) (fun h => ?_)
  · exact kt (e.mp h) ad H locs ls hR he hs hv
  · exact kf (fun q => h (e.mpr q)) ad H locs ls hR he hs hv
theorem J_if_ge (hX : XO E X cc own nl d c0 s0) {x : Int} {off : Int} (t : Nat) (hd : decode cc pc = .ok (.ifCond .ge off, 3)) (hx : i32 x) (ht : (pc : Int) + off = (t : Int)) (kt : 0 ≤ x → J E X t L st K M a b) (kf : ¬ 0 ≤ x → J E X (pc + 3) L st K M a b) : J E X pc L (vI x :: st) K M a b := by
  obtain ⟨p, l, e, R, s, m, args, below, meth, c, Q, nL, K0, ad0⟩ := X
  intro ad H locs ls hR he hs hv
  have e := (oi_le (a := 0) (by omega) hx)
  refine lv_if_ge hX.1 hX.2.1 hd ht (fun h => ?_) (fun h => ?_)
  · exact kt (e.mp h) ad H locs ls hR he hs hv
  · exact kf (fun q => h (e.mpr q)) ad H locs ls hR he hs hv
theorem J_icmp_ge (hX : XO E X cc own nl d c0 s0) {x y : Int} {off : Int} (t : Nat) (hd : decode cc pc = .ok (.if_icmp .ge off, 3)) (hx : i32 x) (hy : i32 y) (ht : (pc : Int) + off = (t : Int)) (kt : y ≤ x → J E X t L st K M a b) (kf : ¬ y ≤ x → J E X (pc + 3) L st K M a b) : J E X pc L (vI y :: vI x :: st) K M a b := by
  obtain ⟨p, l, e, R, s, m, args, below, meth, c, Q, nL, K0, ad0⟩ := X
  intro ad H locs ls hR he hs hv
  have e := (oi_le hy hx)
  refine lv_icmp_ge hX.1 hX.2.1 hd ht (fun h => ?_) (fun h => ?_)
  · exact kt (e.mp h) ad H locs ls hR he hs hv
  · exact kf (fun q => h (e.mpr q)) ad H locs ls hR he hs hv
theorem J_if_gt (hX : XO E X cc own nl d c0 s0) {x : Int} {off : Int} (t : Nat) (hd : decode cc pc = .ok (.ifCond .gt off, 3)) (hx : i32 x) (ht : (pc : Int) + off = (t : Int)) (kt : 0 < x → J E X t L st K M a b) (kf : ¬ 0 < x → J E X (pc + 3) L st K M a b) : J E X pc L (vI x :: st) K M a b := by
  obtain ⟨p, l, e, R, s, m, args, below, meth, c, Q, nL, K0, ad0⟩ := X
  intro ad H locs ls hR he hs hv
  have e := (oi_lt (a := 0) (by omega) hx)
  refine lv_if_gt hX.1 hX.2.1 hd ht (fun h => ?_) (fun h => ?_)
  · exact kt (e.mp h) ad H locs ls hR he hs hv
  · exact kf (fun q => h (e.mpr q)) ad H locs ls hR he hs hv
theorem J_icmp_gt (hX : XO E X cc own nl d c0 s0) {x y : Int} {off : Int} (t : Nat) (hd : decode cc pc = .ok (.if_icmp .gt off, 3)) (hx : i32 x) (hy : i32 y) (ht : (pc : Int) + off = (t : Int)) (kt : y < x → J E X t L st K M a b) (kf : ¬ y < x → J E X (pc + 3) L st K M a b) : J E X pc L (vI y :: vI x :: st) K M a b := by
  obtain ⟨p, l, e, R, s, m, args, below, meth, c, Q, nL, K0, ad0⟩ := X
  intro ad H locs ls hR he hs hv
  have e := (oi_lt hy hx)
  refine lv_icmp_gt hX.1 hX.2.1 hd ht (fun h => ?_) (fun h => ?_)
  · exact kt (e.mp h) ad H locs ls hR he hs hv
  · exact kf (fun q => h (e.mpr q)) ad H locs ls hR he hs hv
theorem J_if_le (hX : XO E X cc own nl d c0 s0) {x : Int} {off : Int} (t : Nat) (hd : decode cc pc = .ok (.ifCond .le off, 3)) (hx : i32 x) (ht : (pc : Int) + off = (t : Int)) (kt : x ≤ 0 → J E X t L st K M a b) (kf : ¬ x ≤ 0 → J E X (pc + 3) L st K M a b) : J E X pc L (vI x :: st) K M a b := by
  obtain ⟨p, l, e, R, s, m, args, below, meth, c, Q, nL, K0, ad0⟩ := X
  intro ad H locs ls hR he hs hv
  have e := (oi_le (b := 0) hx (by omega))
  refine lv_if_le hX.1 hX.2.1 hd ht (fun h => ?_) (fun h => ?_)
  · exact kt (e.mp h) ad H locs ls hR he hs hv
  · exact kf (fun q => h (e.mpr q)) ad H locs ls hR he hs hv
theorem J_icmp_le (hX : XO E X cc own nl d c0 s0) {x y : Int} {off : Int} (t : Nat) (hd : decode cc pc = .ok (.if_icmp .le off, 3)) (hx : i32 x) (hy : i32 y) (ht : (pc : Int) + off = (t : Int)) (kt : x ≤ y → J E X t L st K M a b) (kf : ¬ x ≤ y → J E X (pc + 3) L st K M a b) : J E X pc L (vI y :: vI x :: st) K M a b := by
  obtain ⟨p, l, e, R, s, m, args, below, meth, c, Q, nL, K0, ad0⟩ := X
  intro ad H locs ls hR he hs hv
  have e := (oi_le hx hy)
  refine lv_icmp_le hX.1 hX.2.1 hd ht (fun h => ?_) (fun h => ?_)
  · exact kt (e.mp h) ad H locs ls hR he hs hv
  · exact kf (fun q => h (e.mpr q)) ad H locs ls hR he hs hv
theorem J_loc (L2 : List (Nat × Value)) (hs2 : L2.map (fun q => lget L q.1) = L2.map (fun q => some q.2)) (k1 : J E X pc L2 st K M a b) : J E X pc L st K M a b := by
  obtain ⟨p, l, e, R, s, m, args, below, meth, c, Q, nL, K0, ad0⟩ := X
  intro ad H locs ls hR he hs hv
  exact k1 ad H locs ls hR he hs (mlv_sub hv hs2)
theorem J_widen {a2 b2 : Nat} (ha : a ≤ a2) (hb : b ≤ b2) (k1 : J E X pc L st K M a2 b2) : J E X pc L st K M a b := by
  obtain ⟨p, l, e, R, s, m, args, below, meth, c, Q, nL, K0, ad0⟩ := X
  intro ad H locs ls hR he hs hv
  exact W.widen ha hb (k1 ad H locs ls hR he hs hv)
theorem J_M {M2 : MM} (h : M = M2) (k1 : J E X pc L st K M2 a b) : J E X pc L st K M a b := h ▸ k1
theorem J_st {st2 : List Value} (h : st = st2) (k1 : J E X pc L st2 K M a b) : J E X pc L st K M a b := h ▸ k1
theorem J_tin (hX : XO E X cc own nl d c0 s0) {dflt lo hi : Int} {offs : Array Int} {len : Nat} {x : Int} (off : Int) (t : Nat) (hd : decode cc pc = .ok (.tableswitch dflt lo hi offs, len)) (hx : i32 x) (h1 : lo ≤ x ∧ x ≤ hi) (ho : offs[(x - lo).toNat]? = some off) (ht : (pc : Int) + off = (t : Int)) (k1 : J E X t L st K M a b) : J E X pc L (vI x :: st) K M a b := by
  obtain ⟨p, l, e, R, s, m, args, below, meth, c, Q, nL, K0, ad0⟩ := X
  intro ad H locs ls hR he hs hv
  exact lv_tableIn hX.1 hX.2.1 hd (by rw [oi_t hx]; omega) (by rw [oi_t hx]; omega) (by rw [oi_t hx]; exact ho) ht (k1 ad H locs ls hR he hs hv)
theorem J_tout (hX : XO E X cc own nl d c0 s0) {dflt lo hi : Int} {offs : Array Int} {len : Nat} {x : Int} (t : Nat) (hd : decode cc pc = .ok (.tableswitch dflt lo hi offs, len)) (hx : i32 x) (h1 : x < lo ∨ hi < x) (ht : (pc : Int) + dflt = (t : Int)) (k1 : J E X t L st K M a b) : J E X pc L (vI x :: st) K M a b := by
  obtain ⟨p, l, e, R, s, m, args, below, meth, c, Q, nL, K0, ad0⟩ := X
  intro ad H locs ls hR he hs hv
  exact lv_tableOut hX.1 hX.2.1 hd (by rw [oi_t hx]; exact h1) ht (k1 ad H locs ls hR he hs hv)
theorem J_abs (hX : XO E X cc own nl d c0 s0) {x : Int} (hx : i32 x) (k1 : ∀ y : Int, y = x → J E X pc L (vI y :: st) K M a b) : J E X pc L (vI x :: st) K M a b := k1 x rfl
theorem J_iret (hX : XO E X cc own nl d c0 s0) {post : Option Value → (Nat → Nat) → MM → Prop} (hQ : XQ E X (some .int) post c0 s0) {x : Int} (hd : decode cc pc = .ok (.ireturn, 1)) (hp : post (some (vI x)) K M) (ha : a ≤ c0) (hb : b ≤ s0) : J E X pc L [(vI x)] K M a b := by
  obtain ⟨p, l, e, R, s, m, args, below, meth, c, Q, nL, K0, ad0⟩ := X
  intro ad H locs ls hR he hs hv
  obtain ⟨hr, hlocks, rfl⟩ := hQ
  refine W.widen ha hb ?_
  exact W.iret hX.1 hX.2.1 hr (fun t ht hW => ⟨some (vI x), K, M, ad, rfl, hp, by rw [ht]; exact hR, he⟩) hs hd hlocks
theorem J_lret (hX : XO E X cc own nl d c0 s0) {post : Option Value → (Nat → Nat) → MM → Prop} (hQ : XQ E X (some .long) post c0 s0) {x : Int} (hd : decode cc pc = .ok (.lreturn, 1)) (hp : post (some (vL x)) K M) (ha : a ≤ c0) (hb : b ≤ s0) : J E X pc L [(vL x)] K M a b := by
  obtain ⟨p, l, e, R, s, m, args, below, meth, c, Q, nL, K0, ad0⟩ := X
  intro ad H locs ls hR he hs hv
  obtain ⟨hr, hlocks, rfl⟩ := hQ
  refine W.widen ha hb ?_
  exact W.lret hX.1 hX.2.1 hr (fun t ht hW => ⟨some (vL x), K, M, ad, rfl, hp, by rw [ht]; exact hR, he⟩) hs hd hlocks
theorem J_zret (hX : XO E X cc own nl d c0 s0) {post : Option Value → (Nat → Nat) → MM → Prop} (hQ : XQ E X (some .boolean) post c0 s0) {x : Int} (hd : decode cc pc = .ok (.ireturn, 1)) (h01 : x = 0 ∨ x = 1) (hp : post (some (vI x)) K M) (ha : a ≤ c0) (hb : b ≤ s0) : J E X pc L [vI x] K M a b := by
  obtain ⟨p, l, e, R, s, m, args, below, meth, c, Q, nL, K0, ad0⟩ := X
  intro ad H locs ls hR he hs hv
  obtain ⟨hr, hlocks, rfl⟩ := hQ
  refine W.widen ha hb ?_
  exact W.zret hX.1 hX.2.1 hr (by rcases h01 with rfl | rfl <;> rfl) (fun t ht hW => ⟨some (vI x), K, M, ad, rfl, hp, by rw [ht]; exact hR, he⟩) hs hd hlocks
theorem J_vret (hX : XO E X cc own nl d c0 s0) {post : Option Value → (Nat → Nat) → MM → Prop} (hQ : XQ E X none post c0 s0) (hd : decode cc pc = .ok (.return_, 1)) (hp : post none K M) (ha : a ≤ c0) (hb : b ≤ s0) : J E X pc L [] K M a b := by
  obtain ⟨p, l, e, R, s, m, args, below, meth, c, Q, nL, K0, ad0⟩ := X
  intro ad H locs ls hR he hs hv
  obtain ⟨hr, hlocks, rfl⟩ := hQ
  refine W.widen ha hb ?_
  exact W.vret hX.1 hX.2.1 hr (fun t ht hW => ⟨none, K, M, ad, rfl, hp, by rw [ht]; exact hR, he⟩) hs hd hlocks
theorem J_aret (hX : XO E X cc own nl d c0 s0) {post : Option Value → (Nat → Nat) → MM → Prop} {C : String} (hQ : XQ E X (some (.object C)) post c0 s0) {i : Nat} (hd : decode cc pc = .ok (.areturn, 1)) (hp : post (some (.ref i)) K M) (ha : a ≤ c0) (hb : b ≤ s0) : J E X pc L [.ref i] K M a b := by
  obtain ⟨p, l, e, R, s, m, args, below, meth, c, Q, nL, K0, ad0⟩ := X
  intro ad H locs ls hR he hs hv
  obtain ⟨hr, hlocks, rfl⟩ := hQ
  refine W.widen ha hb ?_
  exact W.aret hX.1 hX.2.1 hr (Or.inl ⟨C, rfl⟩) (Or.inr ⟨ad i, rfl⟩) (fun t ht hW => ⟨some (.ref i), K, M, ad, rfl, hp, by rw [ht]; exact hR, he⟩) hs hd hlocks
end RULES
end
section
/-! heap rules, calls, entry -/
theorem ce_congr {E : EE} {ad : Nat → Nat} {k i : Nat} {M M2 : MM} (h : M i = M2 i) : ce E ad k i M = ce E ad k i M2 := by
  unfold ce fv
  rw [h]
theorem Rep_set {E : EE} {ad K : Nat → Nat} {M M2 : MM} {H H2 : Heap} {i : Nat} (hR : Rep E ad K M H) (hK : K i ≠ 0) (hat : va_at E.1 vwCl (ad i, ce E ad (K i) i M2) H2) (hz : H2.size = H.size) (ho : ∀ q : Nat, q ≠ ad i → H2[q]? = H[q]?) (hM : ∀ i2, i2 ≠ i → M2 i2 = M i2) (hr : ∀ j, rg (K i) j (M2 i j)) : Rep E ad K M2 H2 := by
  obtain ⟨h1, h2, h3, ⟨h4, h5⟩, h6⟩ := hR
  refine ⟨fun i2 hk => ?_, h2, h3, ⟨by rw [hz]; exact h4, fun q hq => ?_⟩, fun i2 j hk => ?_⟩
  · by_cases e : i2 = i
    · subst e; exact hat
    · rw [ce_congr (hM i2 e)]
      exact (h1 i2 hk).kept (ho _ (fun q => e (h2 i2 i hk hK q)))
  · rw [ho q (fun e => by have := h3 i hK; omega)]
    exact h5 q hq
  · by_cases e : i2 = i
    · subst e; exact hr j
    · rw [hM i2 e]; exact h6 i2 j hk
theorem mset_ne {M : MM} {i : Nat} {j x : Int} {i2 : Nat} (h : i2 ≠ i) : mset M i j x i2 = M i2 := by
  funext j2; unfold mset; rw [if_neg (fun q => h q.1)]
theorem mset_eq {M : MM} {i : Nat} {j x : Int} : mset M i j x i j = x := by unfold mset; rw [if_pos ⟨rfl, rfl⟩]
theorem mset_nj {M : MM} {i i2 : Nat} {j x : Int} {j2 : Int} (h : j2 ≠ j) : mset M i j x i2 j2 = M i2 j2 := by unfold mset; rw [if_neg (fun q => h q.2)]
theorem mset_rg {k : Nat} {M : MM} {i : Nat} {j x : Int} (h : ∀ j, rg k j (M i j)) (hx : rg k j x) : ∀ j2, rg k j2 (mset M i j x i j2) := by
  intro j2
  by_cases e : j2 = j
  · subst e; rw [mset_eq]; exact hx
  · rw [mset_nj e]; exact h j2
/-- a field of the class of kind k is linked at idx of own -/
def FL (own : String) (idx k f : Nat) : Prop := ∃ (C : String) (T : u_T) (N : Nat) (ty0 : Nat → FieldType), vwCl[k - 1]? = some (C, T, N) ∧ (0 < k ∧ k < 10) ∧ f < N ∧ nf k = N ∧ (∀ w ∈ u_ws C T N, w ∈ tb) ∧ Cond.fieldLink own idx (T f).1 (T f).2.1 (T f).2.2.1 ∈ tb ∧
  (∀ k, k < N → parseFieldDescriptor (T k).2.2.1 = some (ty0 k)) ∧ (∀ a, a < N → ∀ b, b < N → a ≠ b → (T a).2.1 ≠ (T b).2.1)
def FR (own : String) (idx k f o : Nat) : Prop := FL own idx k f ∧ ro k f = some o
def FI (own : String) (idx k f : Nat) (j : Int) : Prop := FL own idx k f ∧ ro k f = none ∧ ¬ (k = 9 ∧ f = 23) ∧ ¬ (k = 4 ∧ f = 4) ∧ (f : Int) = j
/-- .. and it is an int or a boolean that may be written -/
def FW (own : String) (idx k f : Nat) (j : Int) (ty : FieldType) : Prop := FI own idx k f j ∧ ∀ (C : String) (T : u_T) (N : Nat), vwCl[k - 1]? = some (C, T, N) → (T f).2.2.2 = false ∧ parseFieldDescriptor (T f).2.2.1 = some ty
theorem ce_obj {E : EE} {ad : Nat → Nat} {k i : Nat} {M : MM} (hk : k < 10) : ce E ad k i M = .inr (k - 1, (List.range (nf k)).map (fun f => fv E ad k i f M)) := by
  unfold ce; rw [if_pos hk]
theorem ce_arr {E : EE} {ad : Nat → Nat} {n i : Nat} {M : MM} : ce E ad (1000 + n) i M = .inl (E.2.1.1, n, .inl (fun j => Int32.ofInt (M i j))) := by
  unfold ce; rw [if_neg (by omega), if_neg (by omega), if_neg (by omega), if_neg (by omega), show 1000 + n - 1000 = n by omega]
theorem rg_i {k : Nat} {j x : Int} (h : rg k j x) (hk : ¬ (k = 9 ∧ j = 23)) (h1 : k ≠ 11) (h2 : k ≠ 12) : i32 x := by
  rcases h with h | h
  · rcases h with h | h | h
    · exact absurd h h1
    · exact absurd h h2
    · exact absurd h hk
  · exact h
theorem FI_rg {own : String} {idx k f : Nat} {j x : Int} (h : FI own idx k f j) (hr : rg k j x) : i32 x := by
  obtain ⟨⟨_, _, _, _, _, h0, _⟩, _, h1, _, h2⟩ := h
  exact rg_i hr (fun q => h1 ⟨q.1, by omega⟩) (by omega) (by omega)
section RULES
variable {E : EE} {X : JX} {cc : ByteArray} {own : String} {nl d c0 s0 : Nat} {pc : Nat} {L : List (Nat × Value)} {st : List Value} {K : Nat → Nat} {M : MM} {a b : Nat}
theorem J_getv (hX : XO E X cc own nl d c0 s0) {idx k f i : Nat} (hF : FL own idx k f) (hd : decode cc pc = .ok (.getfield idx, 3)) (hK : K i = k) (k1 : ∀ (ad : Nat → Nat) (H : Heap) (locs : List Loc) (ls : Array Slot), match X with | (p, l, e, R, s, m, args, below, meth, c, Q, nL, K0, ad0) => Rep E ad K M H → adE K0 ad0 K ad → (∀ z ∈ locs, sz0 E ≤ z.base) → lv_has ls nL (mlv ad L) → W p l e R s m args below meth c H locs a b Q (F0 m (pc + 3) ls (fv E ad k i f M :: st.map (cv ad)))) : J E X pc L (.ref i :: st) K M a b := by
  obtain ⟨p, l, e, R, s, m, args, below, meth, c, Q, nL, K0, ad0⟩ := X
  intro ad H locs ls hR he hs hv
  obtain ⟨C, T, N, ty0, h1, hk, hf, hN, hin, hlink, -, -⟩ := hF
  have hat := hR.1 i (by omega)
  rw [hK, ce_obj hk.2] at hat
  have hP : va_P E.1 vwCl [(ad i, .inr (k - 1, (List.range (nf k)).map (fun f => fv E ad k i f M)))] H := fun j q hq => by
    cases j with
    | zero => cases hq; exact hat
    | succ j => cases hq
  exact va_get (ws := [(ad i, .inr (k - 1, (List.range (nf k)).map (fun f => fv E ad k i f M)))]) hX.1 hX.2.1 hX.2.2.2.2.1 hin hX.2.2.2.1 hX.2.2.2.2.2.2.1 hP 0 rfl h1 f hf (hX.2.2.2.2.1 _ hlink) (fun _ h => h) (v := fv E ad k i f M) (by rw [List.getElem?_map, List.getElem?_range (by omega)]; rfl) hd (k1 ad H locs ls hR he hs hv)
theorem J_getr (hX : XO E X cc own nl d c0 s0) {idx k f o i : Nat} (hF : FR own idx k f o) (hd : decode cc pc = .ok (.getfield idx, 3)) (hK : K i = k) (k1 : J E X (pc + 3) L (.ref (i + o) :: st) K M a b) : J E X pc L (.ref i :: st) K M a b := by
  obtain ⟨p, l, e, R, s, m, args, below, meth, c, Q, nL, K0, ad0⟩ := X
  refine J_getv hX hF.1 hd hK (fun ad H locs ls hR he hs hv => ?_)
  have e1 : fv E ad k i f M = .ref (ad (i + o)) := by unfold fv; rw [hF.2]
  rw [e1]
  exact k1 ad H locs ls hR he hs hv
theorem J_geti (hX : XO E X cc own nl d c0 s0) {idx k f i : Nat} {j : Int} (hF : FI own idx k f j) (hd : decode cc pc = .ok (.getfield idx, 3)) (hK : K i = k) (k1 : i32 (M i j) → J E X (pc + 3) L (vI (M i j) :: st) K M a b) : J E X pc L (.ref i :: st) K M a b := by
  obtain ⟨p, l, e, R, s, m, args, below, meth, c, Q, nL, K0, ad0⟩ := X
  refine J_getv hX hF.1 hd hK (fun ad H locs ls hR he hs hv => ?_)
  have hk0 : K i ≠ 0 := by obtain ⟨_, _, _, _, _, h0, _⟩ := hF.1; omega
  have hr : i32 (M i j) := FI_rg hF (by have := hR.2.2.2.2 i j hk0; rwa [hK] at this)
  have e1 : fv E ad k i f M = vI (M i j) := by
    obtain ⟨_, h1, h2, h3, h4⟩ := hF
    unfold fv; rw [h1]; simp only
    rw [if_neg h2, if_neg h3, h4]
  rw [e1]
  exact k1 hr ad H locs ls hR he hs hv
theorem List_map_set {α : Type} {N f : Nat} {g g2 : Nat → α} (h : ∀ j, j < N → j ≠ f → g2 j = g j) (hf : f < N) : ((List.range N).map g).set f (g2 f) = (List.range N).map g2 := by
  apply List.ext_getElem?
  intro j
  by_cases e : f = j
  · subst e
    rw [List.getElem?_set_self (by simpa using hf), List.getElem?_map, List.getElem?_range hf]; rfl
  · rw [List.getElem?_set_ne e, List.getElem?_map, List.getElem?_map]
    by_cases hj : j < N
    · rw [List.getElem?_range hj]; simp only [Option.map_some]; rw [h j hj (fun q => e q.symm)]
    · rw [List.getElem?_eq_none (by simp; omega)]; rfl
theorem J_puti (hX : XO E X cc own nl d c0 s0) {idx k f i : Nat} {j x : Int} {ty : FieldType} (hF : FW own idx k f j ty) (hd : decode cc pc = .ok (.putfield idx, 3)) (hK : K i = k) (hx : i32 x) (hty : ty = .int ∨ ty = .boolean ∧ (x = 0 ∨ x = 1)) (k1 : J E X (pc + 3) L st K (mset M i j x) a b) : J E X pc L (vI x :: .ref i :: st) K M a b := by
  obtain ⟨p, l, e, R, s, m, args, below, meth, c, Q, nL, K0, ad0⟩ := X
  intro ad H locs ls hR he hs hv
  obtain ⟨hx0, hb, hml, hown, hts, hroom, hKK, -⟩ := hX
  have hFI := hF.1
  obtain ⟨⟨⟨C, T, N, ty0, h1, hk, hf, hN, hin, hlink, hty0, hnm⟩, hro, hn9, hn4, hj⟩, hw⟩ := hF
  obtain ⟨hfin, hpd⟩ := hw C T N h1
  have hk0 : K i ≠ 0 := by omega
  have hat := hR.1 i hk0
  rw [hK, ce_obj hk.2] at hat
  obtain ⟨r, g1, cell, q1, q2, q3, q4⟩ := hat
  have hr : r = (C, T, N) := Option.some.inj (g1.symm.trans h1)
  subst hr
  have hap := va_apart (own := own) hts hin ty0 hty0 hnm hKK h1
  obtain ⟨hS, hfc, kC, hkC, hkind⟩ := hKK.1 (k - 1) _ h1
  obtain ⟨cf, kf, fi, fd, hi, hsl⟩ := hS f hf
  have hlay := hts _ (hin _ (u_in_lay hf))
  unfold u_lay at hlay
  rw [if_neg (by rw [hfin]; decide)] at hlay
  have hst := (u_facts hfc hkC (u_lays hts hin hf) hi).1
  have hnar : narrow ty (vI x) = vI x ∧ fits ty (vI x) = true := by
    rcases hty with rfl | ⟨rfl, rfl | rfl⟩
    · exact ⟨rfl, rfl⟩
    · exact ⟨rfl, rfl⟩
    · exact ⟨rfl, rfl⟩
  have h6 := u_store hfc hkC hkind hlay hi hpd hnar.1 hnar.2
  refine W.putK hx0 hb (f := fd) (v := vI x) ⟨hown, hts _ hlink, ⟨_, _, _, hi⟩, hst⟩ (by rw [q2]; exact h6) q1 q3 (by rw [hsl]; exact k2_hasslot (q4 f hf)) rfl rfl hd fun H2 e1 e2 e3 => ?_
  rw [hsl] at e1 ⊢
  refine k1 ad H2 _ ls (Rep_set hR hk0 ?_ e2 e3 (fun i2 h => mset_ne h) ?_) he ?_ hv
  · rw [hK, ce_obj hk.2]
    refine ⟨_, h1, t_OB.to (V := updV (vp_V ((List.range (nf k)).map (fun f => fv E ad k i f M))) f (vI x)) ⟨_, e1, q2, q3, t_set q4 hap hf (vI x)⟩ (fun j2 _ => ?_)⟩
    have hl : f < ((List.range (nf k)).map (fun f => fv E ad k i f M)).length := by simp; omega
    rw [vp_updV_set hl (vI x) j2]
    have e5 : fv E ad k i f (mset M i j x) = vI x := by
      unfold fv; rw [hro]; simp only
      rw [if_neg hn9, if_neg hn4, hj, mset_eq]
    have e6 := List_map_set (N := nf k) (f := f) (g := fun f => fv E ad k i f M) (g2 := fun f => fv E ad k i f (mset M i j x)) (fun j3 hj3 hne => ?_) (by omega)
    · simp only [e5] at e6
      rw [e6]
    · show fv E ad k i j3 (mset M i j x) = fv E ad k i j3 M
      unfold fv
      rw [mset_nj (by omega)]
      by_cases h44 : k = 4 ∧ j3 = 4
      · rw [mset_nj (j2 := 4) (by omega)]
      · rw [if_neg h44, if_neg h44]
  · refine mset_rg (fun j2 => hR.2.2.2.2 i j2 hk0) (Or.inr hx)
  · intro z hz
    rcases List.mem_append.mp hz with h | h
    · exact hs z h
    · rw [List.mem_singleton.mp h]; exact hR.2.2.1 i hk0
theorem tys_0 {E : EE} : (tys E)[0]? = some (E.2.1.1, .int) := rfl
theorem J_iald (hX : XO E X cc own nl d c0 s0) {n i : Nat} {j : Int} (hd : decode cc pc = .ok (.iaload, 1)) (hK : K i = 1000 + n) (hj : 0 ≤ j ∧ j < n) (hn : n < 1000000) (k1 : i32 (M i j) → J E X (pc + 1) L (vI (M i j) :: st) K M a b) : J E X pc L (vI j :: .ref i :: st) K M a b := by
  obtain ⟨p, l, e, R, s, m, args, below, meth, c, Q, nL, K0, ad0⟩ := X
  intro ad H locs ls hR he hs hv
  have hk0 : K i ≠ 0 := by omega
  have hr : i32 (M i j) := rg_i (by have := hR.2.2.2.2 i j hk0; rwa [hK] at this) (by omega) (by omega) (by omega)
  have hat := hR.1 i hk0
  rw [hK, ce_arr] at hat
  have hP : va_P E.1 vwCl [(ad i, .inl (E.2.1.1, n, .inl (fun j => Int32.ofInt (M i j))))] H := fun j q hq => by
    cases j with
    | zero => cases hq; exact hat
    | succ j => cases hq
  refine va_iald hX.1 hX.2.1 hX.2.2.2.2.2.2.1 hP 0 0 rfl tys_0 (oi_in hj.1 hj.2 (by omega)) hd ?_
  rw [oi_cl (by omega), oi_cast hj.1]
  exact k1 hr ad H locs ls hR he hs hv
theorem J_iast (hX : XO E X cc own nl d c0 s0) {n i : Nat} {j x : Int} (hd : decode cc pc = .ok (.iastore, 1)) (hK : K i = 1000 + n) (hj : 0 ≤ j ∧ j < n) (hn : n < 1000000) (hx : i32 x) (k1 : J E X (pc + 1) L st K (mset M i j x) a b) : J E X pc L (vI x :: vI j :: .ref i :: st) K M a b := by
  obtain ⟨p, l, e, R, s, m, args, below, meth, c, Q, nL, K0, ad0⟩ := X
  intro ad H locs ls hR he hs hv
  have hk0 : K i ≠ 0 := by omega
  have hat := hR.1 i hk0
  rw [hK, ce_arr] at hat
  have hin := oi_in (n := n) hj.1 hj.2 (by omega)
  refine W.iast hX.1 hX.2.1 (a := ad i) (cell := arrV E.2.1.1 n (fun j => .int (Int32.ofInt (M i j)))) (x := Int32.ofInt x) (j := Int32.ofInt j) hat ((hX.2.2.2.2.2.2.1.2 0 _ tys_0).1 n _) (fun q => by cases q) (by rw [arrV_size]; exact hin) rfl rfl hd fun H2 e1 z oq => ?_
  refine k1 ad H2 _ ls (Rep_set hR hk0 ?_ z oq (fun i2 h => mset_ne h) (mset_rg (fun j2 => hR.2.2.2.2 i j2 hk0) (Or.inr hx))) he ?_ hv
  · rw [hK, ce_arr]
    show H2[ad i]? = some (vp_cell _ _)
    rw [e1, vp_cell_i, arrV_store, oi_cl (by omega)]
    congr 2
    funext q
    unfold updV mset
    by_cases hq : q = j.toNat
    · rw [if_pos hq, if_pos ⟨rfl, by omega⟩]
    · rw [if_neg hq, if_neg (by omega)]
  · intro z hz
    rcases List.mem_append.mp hz with h | h
    · exact hs z h
    · rw [List.mem_singleton.mp h]; exact hR.2.2.1 i hk0
theorem J_alen (hX : XO E X cc own nl d c0 s0) {n i : Nat} (hd : decode cc pc = .ok (.arraylength, 1)) (hK : K i = 1000 + n) (k1 : J E X (pc + 1) L (vI n :: st) K M a b) : J E X pc L (.ref i :: st) K M a b := by
  obtain ⟨p, l, e, R, s, m, args, below, meth, c, Q, nL, K0, ad0⟩ := X
  intro ad H locs ls hR he hs hv
  have hk0 : K i ≠ 0 := by omega
  have hat := hR.1 i hk0
  rw [hK, ce_arr] at hat
  have hP : va_P E.1 vwCl [(ad i, .inl (E.2.1.1, n, .inl (fun j => Int32.ofInt (M i j))))] H := fun j q hq => by
    cases j with
    | zero => cases hq; exact hat
    | succ j => cases hq
  exact va_alen hX.1 hX.2.1 hX.2.2.2.2.2.2.1 hP 0 0 rfl tys_0 (v := Int32.ofInt n) Int32.ofInt_eq_ofNat.symm hd (k1 ad H locs ls hR he hs hv)
end RULES
end
section
/-! entry and calls -/
theorem lg_sl_len (ad : Nat → Nat) (av : List Value) : (lg_sl (av.map (cv ad))).length = (lg_sl av).length := by
  induction av with
  | nil => rfl
  | cons v t ih =>
    have h := cv_cat ad v
    unfold lg_sl at ih ⊢
    rw [List.map_cons, List.flatMap_cons, List.flatMap_cons, List.length_append, List.length_append, ih, h]
    by_cases q : v.category = 2 <;> simp [q]
theorem lv_args_map (ad : Nat → Nat) (av : List Value) : ∀ i, lv_args i (av.map (cv ad)) = mlv ad (lv_args i av) := by
  induction av with
  | nil => intro i; rfl
  | cons v t ih =>
    intro i
    show (i, cv ad v) :: lv_args (if (cv ad v).category = 2 then i + 2 else i + 1) (t.map (cv ad)) = (i, cv ad v) :: mlv ad (lv_args (if v.category = 2 then i + 2 else i + 1) t)
    rw [ih, cv_cat]
theorem Cn_of {E : EE} {d : Nat} {y : MethodName} {cc : ByteArray} {n : Nat} {ret : Option FieldType} {av : List Value} {K : Nat → Nat} {M : MM} {post : Option Value → (Nat → Nat) → MM → Prop} {mc ms : Nat} (own : String) (hy : plainName y.cls = true) (hown : y.cls = own) (hlen : (lg_sl av).length ≤ n)
    (body : ∀ X : JX, XO E X cc own n d mc ms → XQ E X ret post mc ms → J E X 0 (lv_args 0 av) [] K M 0 0) : Cn E d y cc n ret av K M post mc ms := by
  intro l ad
  refine Met.ofW (cc := cc) (maxL := n) (ret := ret) (ws' := tb) hy rfl ?_
  intro p e s m args below meth c s₁ B hml hv
  obtain ⟨rfl, hR, hKF⟩ := hv
  have hx := B.exec
  have hb := B.bytes
  have hr := B.returns
  have hts := atoms_spec (ws := ww y cc n ret) B.pre
  have hown' : s.vm.findClass own = some m.cls := hown ▸ findClass_of_methodNamed B.named
  have hlocks := B.notSynchronized
  have hl := lv_entry (av.map (cv ad)) (n := n) (by rw [lg_sl_len]; exact hlen)
  rw [lg_entry_eq]
  generalize (lg_sl (av.map (cv ad)) ++ List.replicate (n - (lg_sl (av.map (cv ad))).length) Slot.unset).toArray = ls at hl ⊢
  rw [lv_args_map] at hl
  exact body (p, l, e, (headSpec (ww y cc n ret) (rmD d mc ms)).room, s, m, (av.map (cv ad)).toArray, below, meth, c, MQ below (CQ E ad K post) (av.map (cv ad)).toArray s mc ms (fun q => sz0 E ≤ q), n, K, ad)
    ⟨hx, hb, ⟨hml, rfl⟩, hown', fun w hw => hts w (List.mem_cons_of_mem _ hw), ⟨Nat.le_refl _, Nat.le_refl _, Nat.le_refl _, Nat.le_refl _⟩, hKF⟩ ⟨hr, hlocks, rfl⟩ ad s.heap [] ls hR ⟨fun _ _ => rfl, fun _ => rfl⟩ (fun z hz => by cases hz) hl
def CWb (y : MethodName) (cy : ByteArray) (ny : Nat) (rety : Option FieldType) (n : Nat) : Prop := Cond.initialized y.cls ∈ tb ∧ Cond.code y cy ny rety ∈ tb ∧ (y.cls ≠ "java/lang/invoke/MethodHandle" ∧ y.cls ≠ "java/lang/invoke/VarHandle" ∧ (parseMethodDescriptor y.desc).map (fun d => d.parameters.length) = some n)
def CWV (own : String) (idx : Nat) (y : MethodName) (cy : ByteArray) (ny : Nat) (rety : Option FieldType) (n : Nat) : Prop := Cond.methodLink own idx y ∈ tb ∧ Cond.instanceMethod y ∈ tb ∧ Cond.selects y.cls y y ∈ tb ∧ CWb y cy ny rety n
def CWS (own : String) (idx : Nat) (y : MethodName) (cy : ByteArray) (ny : Nat) (rety : Option FieldType) (n : Nat) : Prop := Cond.methodLink own idx y ∈ tb ∧ Cond.static y ∈ tb ∧ CWb y cy ny rety n
def CWN (own : String) (idx : Nat) (y : MethodName) (cy : ByteArray) (ny : Nat) (rety : Option FieldType) (n : Nat) (host : String) : Prop := (own, idx, y, host) ∈ nwM ∧ Cond.static y ∈ tb ∧ CWb y cy ny rety n
theorem ww_good {y : MethodName} {cy : ByteArray} {ny : Nat} {rety : Option FieldType} (h : Cond.code y cy ny rety ∈ tb) : GoodIn tb (ww y cy ny rety) := goodIn_tb fun w hw => by
  rcases List.mem_cons.mp hw with rfl | h1
  · exact h
  · exact h1
/-- a reading method with an int's answer -/
def CnI (E : EE) (d : Nat) (y : MethodName) (cc : ByteArray) (n : Nat) (ret : Option FieldType) (av : List Value) (K : Nat → Nat) (M : MM) (x : Int) : Prop :=
  Cn E d y cc n ret av K M (fun r K' M' => r = some (vI x) ∧ K' = K ∧ M' = M) 0 0 ∧ i32 x
/-- .. with a boolean's -/
def CnB (E : EE) (d : Nat) (y : MethodName) (cc : ByteArray) (n : Nat) (av : List Value) (K : Nat → Nat) (M : MM) (P : Prop) [Decidable P] : Prop :=
  Cn E d y cc n (some .boolean) av K M (fun r K' M' => r = some (vI (bI P)) ∧ K' = K ∧ M' = M) 0 0
/-- a method that changes the memory, no ids -/
def CnM (E : EE) (d : Nat) (y : MethodName) (cc : ByteArray) (n : Nat) (ret : Option FieldType) (av : List Value) (K : Nat → Nat) (M : MM) (post : Option Value → MM → Prop) : Prop :=
  Cn E d y cc n ret av K M (fun r K' M' => K' = K ∧ post r M') 0 0
section RULES
variable {E : EE} {X : JX} {cc : ByteArray} {own : String} {nl d c0 s0 : Nat} {pc : Nat} {L : List (Nat × Value)} {st : List Value} {K : Nat → Nat} {M : MM} {a b : Nat}
theorem blindC {E : EE} {ad K : Nat → Nat} {M : MM} {av : List Value} : FrameBlind (va_Pc av (fun U => Rep E ad K M U.heap ∧ KF E U)) := fun _ U g mk h => ⟨h.1, h.2.1, KF_same (u := U) rfl h.2.2⟩
theorem J_run {rest : List Value} {post : Option Value → (Nat → Nat) → MM → Prop} {mc ms : Nat} {x : List Value}
    (hr : ∀ (ad : Nat → Nat) (H : Heap) (locs : List Loc) (ls : Array Slot), match X with | (p, l, e, R, s, m, args, below, meth, c, Q, nL, K0, ad0) => Rep E ad K M H → ls.size = nL → va_Run p l e R s m args below meth c H locs a b mc ms (F0 m pc ls (st.map (cv ad))) (rest.map (cv ad)) (CQ E ad K post (x.map (cv ad)).toArray) (fun q => sz0 E ≤ q))
    (hpost : ∀ r K' M', post r K' M' → K' = K) (k1 : ∀ r M', post r K M' → J E X (pc + 3) L (r.toList ++ rest) K M' (a + mc) (b + ms)) : J E X pc L st K M a b := by
  obtain ⟨p, l, e, R, s, m, args, below, meth, c, Q, nL, K0, ad0⟩ := X
  intro ad H locs ls hR he hs hv T hT S
  obtain ⟨v, st₀, t, T', L', h0, S', hL, e1, e2, ⟨r, K', M', ad', g1, g2, g3, g4⟩, go⟩ := hr ad H locs ls hR hv.1 T hT S
  have hK' := hpost r K' M' g2
  subst hK'
  have had := g4.2 rfl
  subst had
  cases g1
  obtain ⟨t2, a1, b1⟩ := k1 r M' g2 ad' T'.heap (locs ++ L') ls (by rw [e1]; exact g3) he (fun z hz => by
    rcases List.mem_append.mp hz with h | h
    · exact hs z h
    · exact hL z h) hv T' rfl S'
  refine ⟨t2, go t2 ?_, b1⟩
  have e5 : (r.map (cv ad')).toList ++ rest.map (cv ad') = (r.toList ++ rest).map (cv ad') := by cases r <;> simp
  show Steps _ _ _ (T'.setTop { F0 m pc ls (st.map (cv ad')) with pc := pc + 3, stack := (r.map (cv ad')).toList ++ rest.map (cv ad') }) t2
  rw [e5]
  exact a1
theorem J_callV (hX : XO E X cc own nl d c0 s0) {idx i k dy ny mc ms : Nat} {y : MethodName} {cy : ByteArray} {rety : Option FieldType} {As : List Value} (rest : List Value) {post : Option Value → (Nat → Nat) → MM → Prop} (hd : decode cc pc = .ok (.invokevirtual idx, 3)) (hw : CWV own idx y cy ny rety As.length) (hc : Cn E dy y cy ny rety (.ref i :: As) K M post mc ms)
    (hk : K i = k ∧ 0 < k ∧ k < 10 ∧ (vwCl[k - 1]?).map (fun q => q.1) = some y.cls) (hst : st = As.reverse ++ .ref i :: rest) (hcat : (rest.map fun v => v.category).sum ≤ 8) (hdp : dy + 1 ≤ d ∧ ny ≤ 18) (hcs : a + mc ≤ c0 ∧ b + ms ≤ s0)
    (hpost : ∀ r K' M', post r K' M' → K' = K) (k1 : ∀ r M', post r K M' → J E X (pc + 3) L (r.toList ++ rest) K M' (a + mc) (b + ms)) : J E X pc L st K M a b := by
  obtain ⟨p, l, e, R, s, m, args, below, meth, c, Q, nL, K0, ad0⟩ := X
  refine J_run (x := .ref i :: As) (rest := rest) (fun ad H locs ls hR hsz => ?_) hpost k1
  obtain ⟨hx, hb, ⟨hml, hnl⟩, hown, hts, hroom, hKF⟩ := hX
  obtain ⟨w1, w2, w3, w4, w5, w6⟩ := hw
  obtain ⟨hk1, hk2, hk3, hk4⟩ := hk
  have hat := hR.1 i (by omega)
  rw [hk1, ce_obj hk3] at hat
  have hP : va_P E.1 vwCl [(ad i, .inr (k - 1, (List.range (nf k)).map (fun f => fv E ad k i f M)))] H := fun j q hq => by
    cases j with
    | zero => cases hq; exact hat
    | succ j => cases hq
  obtain ⟨⟨C, T, N⟩, hq, hqc⟩ : ∃ q, vwCl[k - 1]? = some q ∧ q.1 = y.cls := by
    cases hv : vwCl[k - 1]? with
    | none => rw [hv] at hk4; cases hk4
    | some q => rw [hv] at hk4; exact ⟨q, rfl, Option.some.inj hk4⟩
  dsimp only at hqc
  subst hqc
  have hT : GoodIn tb (wsV own idx y.cls y (ww y cy ny rety)) := by
    refine goodIn_tb fun w h => ?_
    rcases List.mem_append.mp h with h | h
    · simp only [List.mem_cons, List.not_mem_nil, or_false] at h
      rcases h with rfl | rfl | rfl | rfl <;> assumption
    · exact (ww_good w5 w h).1
  have hl := hc l ad
  have hrun := va_runV (R := R) (H := H) (locs := locs) (cells := a) (slots := b) (meth := meth) (below := below) (e := e) (rest := rest.map (cv ad)) (g := F0 m pc ls (st.map (cv ad))) (As := As.map (cv ad)) (b := ad i) (Ts := tb) (nL := nL) ⟨hx, hb, hml, hown, hts⟩ hl
    (cwV As.length hts hT rfl rfl rfl ⟨rfl, w6⟩ ⟨by show dy + 1 ≤ R.frames; omega, by show 8 + (ny + 11) + 37 * dy ≤ R.locals; omega⟩)
    ⟨blindC, va_recv hKF.1 hP (ci := k - 1) (q0 := 0) hq rfl, fun U hU hW => ⟨rfl, by rw [hU]; exact hR, KF_warm hW hKF⟩⟩ rfl (by simp) hsz (by rw [hst]; simp [cv, List.map_reverse]) (lv_room (by rw [cv_cats]; exact hcat)) hd ⟨by omega, by omega⟩
  exact hrun
theorem J_callS (hX : XO E X cc own nl d c0 s0) {idx dy ny mc ms : Nat} {y : MethodName} {cy : ByteArray} {rety : Option FieldType} {As : List Value} (rest : List Value) {post : Option Value → (Nat → Nat) → MM → Prop} (hd : decode cc pc = .ok (.invokestatic idx, 3)) (hw : CWS own idx y cy ny rety As.length) (hc : Cn E dy y cy ny rety As K M post mc ms)
    (hst : st = As.reverse ++ rest) (hcat : (rest.map fun v => v.category).sum ≤ 8) (hdp : dy + 1 ≤ d ∧ ny ≤ 18) (hcs : a + mc ≤ c0 ∧ b + ms ≤ s0)
    (hpost : ∀ r K' M', post r K' M' → K' = K) (k1 : ∀ r M', post r K M' → J E X (pc + 3) L (r.toList ++ rest) K M' (a + mc) (b + ms)) : J E X pc L st K M a b := by
  obtain ⟨p, l, e, R, s, m, args, below, meth, c, Q, nL, K0, ad0⟩ := X
  refine J_run (x := As) (rest := rest) (fun ad H locs ls hR hsz => ?_) hpost k1
  obtain ⟨hx, hb, ⟨hml, hnl⟩, hown, hts, hroom, hKF⟩ := hX
  obtain ⟨w1, w2, w4, w5, w6⟩ := hw
  have hT : GoodIn tb (va_wsS own idx y (ww y cy ny rety)) := by
    refine goodIn_tb fun w h => ?_
    rcases List.mem_append.mp h with h | h
    · simp only [List.mem_cons, List.not_mem_nil, or_false] at h
      rcases h with rfl | rfl | rfl <;> assumption
    · exact (ww_good w5 w h).1
  have hl := hc l ad
  have hrun := va_runS (R := R) (H := H) (locs := locs) (cells := a) (slots := b) (meth := meth) (below := below) (e := e) (rest := rest.map (cv ad)) (g := F0 m pc ls (st.map (cv ad))) (As := As.map (cv ad)) (Ts := tb) (nL := nL) ⟨hx, hb, hml, hown, hts⟩ hl
    (va_cwS As.length hts hT rfl rfl rfl w6 ⟨by show dy + 1 ≤ R.frames; omega, by show 8 + (ny + 11) + 37 * dy ≤ R.locals; omega⟩)
    ⟨blindC, fun U hU hW => ⟨rfl, by rw [hU]; exact hR, KF_warm hW hKF⟩⟩ rfl (by simp) hsz (by rw [hst]; simp [List.map_reverse]) (lv_room (by rw [cv_cats]; exact hcat)) hd ⟨by omega, by omega⟩
  exact hrun
theorem J_callSN (hX : XO E X cc own nl d c0 s0) {idx dy ny mc ms : Nat} {y : MethodName} {cy : ByteArray} {rety : Option FieldType} {host : String} {As : List Value} (rest : List Value) {post : Option Value → (Nat → Nat) → MM → Prop} (hd : decode cc pc = .ok (.invokestatic idx, 3)) (hw : CWN own idx y cy ny rety As.length host) (hc : Cn E dy y cy ny rety As K M post mc ms)
    (hst : st = As.reverse ++ rest) (hcat : (rest.map fun v => v.category).sum ≤ 8) (hdp : dy + 1 ≤ d ∧ ny ≤ 18) (hcs : a + mc ≤ c0 ∧ b + ms ≤ s0)
    (hpost : ∀ r K' M', post r K' M' → K' = K) (k1 : ∀ r M', post r K M' → J E X (pc + 3) L (r.toList ++ rest) K M' (a + mc) (b + ms)) : J E X pc L st K M a b := by
  obtain ⟨p, l, e, R, s, m, args, below, meth, c, Q, nL, K0, ad0⟩ := X
  refine J_run (x := As) (rest := rest) (fun ad H locs ls hR hsz => ?_) hpost k1
  obtain ⟨hx, hb, ⟨hml, hnl⟩, hown, hts, hroom, hKF⟩ := hX
  obtain ⟨w1, w2, w4, w5, w6⟩ := hw
  have hl := hc l ad
  have hrun := va_runSN (R := R) (H := H) (locs := locs) (cells := a) (slots := b) (meth := meth) (below := below) (e := e) (rest := rest.map (cv ad)) (g := F0 m pc ls (st.map (cv ad))) (As := As.map (cv ad)) (Ts := tb) (nL := nL) ⟨hx, hb, hml, hown, hts⟩ hl
    ⟨va_cnB As.length hts (ww_good w5) rfl rfl rfl (hKF.2.1.1 _ w1) (hts _ w4) w6 ⟨by show dy + 1 ≤ R.frames; omega, by show 8 + (ny + 11) + 37 * dy ≤ R.locals; omega⟩, hts _ w2, trivial⟩
    ⟨blindC, fun U hU hW => ⟨rfl, by rw [hU]; exact hR, KF_warm hW hKF⟩⟩ rfl (by simp) hsz (by rw [hst]; simp [List.map_reverse]) (lv_room (by rw [cv_cats]; exact hcat)) hd ⟨by omega, by omega⟩
  exact hrun
theorem J_callVI (hX : XO E X cc own nl d c0 s0) {idx i k dy ny : Nat} {y : MethodName} {cy : ByteArray} {rety : Option FieldType} {As : List Value} (rest : List Value) {x : Int} (hd : decode cc pc = .ok (.invokevirtual idx, 3)) (hw : CWV own idx y cy ny rety As.length) (hc : CnI E dy y cy ny rety (.ref i :: As) K M x) (hk : K i = k ∧ 0 < k ∧ k < 10 ∧ (vwCl[k - 1]?).map (fun q => q.1) = some y.cls)  (hst : st = As.reverse ++ .ref i :: rest) (hcat : (rest.map fun v => v.category).sum ≤ 8) (hdp : dy + 1 ≤ d ∧ ny ≤ 18) (hab : a ≤ c0 ∧ b ≤ s0) (k1 : i32 x → J E X (pc + 3) L (vI x :: rest) K M a b) : J E X pc L st K M a b :=
  J_callV hX rest hd hw hc.1 hk hst hcat hdp hab (fun _ _ _ h => h.2.1) (fun r M' h => by obtain ⟨rfl, -, rfl⟩ := h; exact k1 hc.2)
theorem J_callVB (hX : XO E X cc own nl d c0 s0) {idx i k dy ny : Nat} {y : MethodName} {cy : ByteArray} {As : List Value} (rest : List Value) {P : Prop} [Decidable P] (hd : decode cc pc = .ok (.invokevirtual idx, 3)) (hw : CWV own idx y cy ny (some .boolean) As.length) (hc : CnB E dy y cy ny (.ref i :: As) K M P) (hk : K i = k ∧ 0 < k ∧ k < 10 ∧ (vwCl[k - 1]?).map (fun q => q.1) = some y.cls)  (hst : st = As.reverse ++ .ref i :: rest) (hcat : (rest.map fun v => v.category).sum ≤ 8) (hdp : dy + 1 ≤ d ∧ ny ≤ 18) (hab : a ≤ c0 ∧ b ≤ s0) (k1 : J E X (pc + 3) L (vI (bI P) :: rest) K M a b) : J E X pc L st K M a b :=
  J_callV hX rest hd hw hc hk hst hcat hdp hab (fun _ _ _ h => h.2.1) (fun r M' h => by obtain ⟨rfl, -, rfl⟩ := h; exact k1)
theorem J_callVM (hX : XO E X cc own nl d c0 s0) {idx i k dy ny : Nat} {y : MethodName} {cy : ByteArray} {rety : Option FieldType} {As : List Value} (rest : List Value) {post : Option Value → MM → Prop} (hd : decode cc pc = .ok (.invokevirtual idx, 3)) (hw : CWV own idx y cy ny rety As.length) (hc : CnM E dy y cy ny rety (.ref i :: As) K M post) (hk : K i = k ∧ 0 < k ∧ k < 10 ∧ (vwCl[k - 1]?).map (fun q => q.1) = some y.cls)  (hst : st = As.reverse ++ .ref i :: rest) (hcat : (rest.map fun v => v.category).sum ≤ 8) (hdp : dy + 1 ≤ d ∧ ny ≤ 18) (hab : a ≤ c0 ∧ b ≤ s0) (k1 : ∀ r M', post r M' → J E X (pc + 3) L (r.toList ++ rest) K M' a b) : J E X pc L st K M a b :=
  J_callV hX rest hd hw hc hk hst hcat hdp hab (fun _ _ _ h => h.1) (fun r M' h => k1 r M' h.2)
theorem J_callSI (hX : XO E X cc own nl d c0 s0) {idx dy ny : Nat} {y : MethodName} {cy : ByteArray} {rety : Option FieldType} {As : List Value} (rest : List Value) {x : Int} (hd : decode cc pc = .ok (.invokestatic idx, 3)) (hw : CWS own idx y cy ny rety As.length) (hc : CnI E dy y cy ny rety As K M x)  (hst : st = As.reverse ++ rest) (hcat : (rest.map fun v => v.category).sum ≤ 8) (hdp : dy + 1 ≤ d ∧ ny ≤ 18) (hab : a ≤ c0 ∧ b ≤ s0) (k1 : i32 x → J E X (pc + 3) L (vI x :: rest) K M a b) : J E X pc L st K M a b :=
  J_callS hX rest hd hw hc.1 hst hcat hdp hab (fun _ _ _ h => h.2.1) (fun r M' h => by obtain ⟨rfl, -, rfl⟩ := h; exact k1 hc.2)
theorem J_callSB (hX : XO E X cc own nl d c0 s0) {idx dy ny : Nat} {y : MethodName} {cy : ByteArray} {As : List Value} (rest : List Value) {P : Prop} [Decidable P] (hd : decode cc pc = .ok (.invokestatic idx, 3)) (hw : CWS own idx y cy ny (some .boolean) As.length) (hc : CnB E dy y cy ny As K M P)  (hst : st = As.reverse ++ rest) (hcat : (rest.map fun v => v.category).sum ≤ 8) (hdp : dy + 1 ≤ d ∧ ny ≤ 18) (hab : a ≤ c0 ∧ b ≤ s0) (k1 : J E X (pc + 3) L (vI (bI P) :: rest) K M a b) : J E X pc L st K M a b :=
  J_callS hX rest hd hw hc hst hcat hdp hab (fun _ _ _ h => h.2.1) (fun r M' h => by obtain ⟨rfl, -, rfl⟩ := h; exact k1)
theorem J_callSM (hX : XO E X cc own nl d c0 s0) {idx dy ny : Nat} {y : MethodName} {cy : ByteArray} {rety : Option FieldType} {As : List Value} (rest : List Value) {post : Option Value → MM → Prop} (hd : decode cc pc = .ok (.invokestatic idx, 3)) (hw : CWS own idx y cy ny rety As.length) (hc : CnM E dy y cy ny rety As K M post)  (hst : st = As.reverse ++ rest) (hcat : (rest.map fun v => v.category).sum ≤ 8) (hdp : dy + 1 ≤ d ∧ ny ≤ 18) (hab : a ≤ c0 ∧ b ≤ s0) (k1 : ∀ r M', post r M' → J E X (pc + 3) L (r.toList ++ rest) K M' a b) : J E X pc L st K M a b :=
  J_callS hX rest hd hw hc hst hcat hdp hab (fun _ _ _ h => h.1) (fun r M' h => k1 r M' h.2)
theorem J_callNI (hX : XO E X cc own nl d c0 s0) {idx dy ny : Nat} {y : MethodName} {cy : ByteArray} {rety : Option FieldType} {host : String} {As : List Value} (rest : List Value) {x : Int} (hd : decode cc pc = .ok (.invokestatic idx, 3)) (hw : CWN own idx y cy ny rety As.length host) (hc : CnI E dy y cy ny rety As K M x)  (hst : st = As.reverse ++ rest) (hcat : (rest.map fun v => v.category).sum ≤ 8) (hdp : dy + 1 ≤ d ∧ ny ≤ 18) (hab : a ≤ c0 ∧ b ≤ s0) (k1 : i32 x → J E X (pc + 3) L (vI x :: rest) K M a b) : J E X pc L st K M a b :=
  J_callSN hX rest hd hw hc.1 hst hcat hdp hab (fun _ _ _ h => h.2.1) (fun r M' h => by obtain ⟨rfl, -, rfl⟩ := h; exact k1 hc.2)
theorem J_callNB (hX : XO E X cc own nl d c0 s0) {idx dy ny : Nat} {y : MethodName} {cy : ByteArray} {host : String} {As : List Value} (rest : List Value) {P : Prop} [Decidable P] (hd : decode cc pc = .ok (.invokestatic idx, 3)) (hw : CWN own idx y cy ny (some .boolean) As.length host) (hc : CnB E dy y cy ny As K M P)  (hst : st = As.reverse ++ rest) (hcat : (rest.map fun v => v.category).sum ≤ 8) (hdp : dy + 1 ≤ d ∧ ny ≤ 18) (hab : a ≤ c0 ∧ b ≤ s0) (k1 : J E X (pc + 3) L (vI (bI P) :: rest) K M a b) : J E X pc L st K M a b :=
  J_callSN hX rest hd hw hc hst hcat hdp hab (fun _ _ _ h => h.2.1) (fun r M' h => by obtain ⟨rfl, -, rfl⟩ := h; exact k1)
theorem J_callNM (hX : XO E X cc own nl d c0 s0) {idx dy ny : Nat} {y : MethodName} {cy : ByteArray} {rety : Option FieldType} {host : String} {As : List Value} (rest : List Value) {post : Option Value → MM → Prop} (hd : decode cc pc = .ok (.invokestatic idx, 3)) (hw : CWN own idx y cy ny rety As.length host) (hc : CnM E dy y cy ny rety As K M post)  (hst : st = As.reverse ++ rest) (hcat : (rest.map fun v => v.category).sum ≤ 8) (hdp : dy + 1 ≤ d ∧ ny ≤ 18) (hab : a ≤ c0 ∧ b ≤ s0) (k1 : ∀ r M', post r M' → J E X (pc + 3) L (r.toList ++ rest) K M' a b) : J E X pc L st K M a b :=
  J_callSN hX rest hd hw hc hst hcat hdp hab (fun _ _ _ h => h.1) (fun r M' h => k1 r M' h.2)
theorem J_ifb_ne (hX : XO E X cc own nl d c0 s0) {P : Prop} [Decidable P] {off : Int} (t : Nat) (hd : decode cc pc = .ok (.ifCond .ne off, 3)) (ht : (pc : Int) + off = (t : Int)) (kt : P → J E X t L st K M a b) (kf : ¬ P → J E X (pc + 3) L st K M a b) : J E X pc L (vI (bI P) :: st) K M a b :=
  J_if_ne hX t hd (by rcases bI_01 P with h | h <;> omega) ht (fun h => kt (by rcases bI_01 P with q | q; exact absurd q h; exact bI_1.mp q)) (fun h => kf (bI_0.mp h))
theorem J_ifb_eq (hX : XO E X cc own nl d c0 s0) {P : Prop} [Decidable P] {off : Int} (t : Nat) (hd : decode cc pc = .ok (.ifCond .eq off, 3)) (ht : (pc : Int) + off = (t : Int)) (kt : ¬ P → J E X t L st K M a b) (kf : P → J E X (pc + 3) L st K M a b) : J E X pc L (vI (bI P) :: st) K M a b :=
  J_if_eq hX t hd (by rcases bI_01 P with h | h <;> omega) ht (fun h => kt (bI_0.mp h)) (fun h => kf (by rcases bI_01 P with q | q; exact absurd q h; exact bI_1.mp q))
theorem J_retI (hX : XO E X cc own nl d c0 s0) {K0 : Nat → Nat} {M0 : MM} {x y : Int} (hQ : XQ E X (some .int) (fun r K' M' => r = some (vI y) ∧ K' = K0 ∧ M' = M0) c0 s0) (hd : decode cc pc = .ok (.ireturn, 1)) (hp : x = y) (hK : K = K0) (hM : M = M0) (ha : a ≤ c0) (hb : b ≤ s0) : J E X pc L [vI x] K M a b :=
  J_iret hX hQ hd ⟨by rw [hp], hK, hM⟩ ha hb
theorem J_retT (hX : XO E X cc own nl d c0 s0) {K0 : Nat → Nat} {M0 : MM} {P : Prop} [Decidable P] (hQ : XQ E X (some .boolean) (fun r K' M' => r = some (vI (bI P)) ∧ K' = K0 ∧ M' = M0) c0 s0) (hd : decode cc pc = .ok (.ireturn, 1)) (hp : P) (hK : K = K0) (hM : M = M0) (ha : a ≤ c0) (hb : b ≤ s0) : J E X pc L [vI 1] K M a b :=
  J_zret hX hQ hd (Or.inr rfl) ⟨by rw [bI_t hp], hK, hM⟩ ha hb
theorem J_retF (hX : XO E X cc own nl d c0 s0) {K0 : Nat → Nat} {M0 : MM} {P : Prop} [Decidable P] (hQ : XQ E X (some .boolean) (fun r K' M' => r = some (vI (bI P)) ∧ K' = K0 ∧ M' = M0) c0 s0) (hd : decode cc pc = .ok (.ireturn, 1)) (hp : ¬ P) (hK : K = K0) (hM : M = M0) (ha : a ≤ c0) (hb : b ≤ s0) : J E X pc L [vI 0] K M a b :=
  J_zret hX hQ hd (Or.inl rfl) ⟨by rw [bI_f hp], hK, hM⟩ ha hb
theorem J_retB (hX : XO E X cc own nl d c0 s0) {K0 : Nat → Nat} {M0 : MM} {P P2 : Prop} [Decidable P] [Decidable P2] (hQ : XQ E X (some .boolean) (fun r K' M' => r = some (vI (bI P)) ∧ K' = K0 ∧ M' = M0) c0 s0) (hd : decode cc pc = .ok (.ireturn, 1)) (hp : P2 ↔ P) (hK : K = K0) (hM : M = M0) (ha : a ≤ c0) (hb : b ≤ s0) : J E X pc L [vI (bI P2)] K M a b :=
  J_zret hX hQ hd (bI_01 P2) ⟨by rw [bI_c hp], hK, hM⟩ ha hb
/- kinds by regions -/
def kT (j : Nat) : Nat := if j = 0 then 6 else 1020
def kC (j : Nat) : Nat := if j = 0 then 3 else 1008
def kS (j : Nat) : Nat := if j = 0 then 5 else if j < 11 then kT (j - 1) else if j < 15 then kC (j - 11) else 1004
def kP (j : Nat) : Nat := if j = 0 then 2 else if j < 17 then kS (j - 1) else 1020
def kV (j : Nat) : Nat := if j = 0 then 7 else if j < 25 then kP (j - 1) else 1200
def StageK (K : Nat → Nat) (b : Nat) : Prop := ∀ j, j < 16 → K (b + j) = kS j
def ViewK (K : Nat → Nat) (v : Nat) : Prop := ∀ j, j < 27 → K (v + j) = kV j
theorem ViewK.stage {K : Nat → Nat} {v : Nat} (h : ViewK K v) : StageK K (v + 2) := fun j hj => by
  have h1 := h (2 + j) (by omega)
  rw [← Nat.add_assoc] at h1
  rw [h1]
  have : ∀ j, j < 16 → kV (2 + j) = kS j := by decide
  exact this j hj
end RULES
end
