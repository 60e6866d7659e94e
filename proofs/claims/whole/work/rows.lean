section
-- ===== PART A: goes FIRST, ahead of the names: the tables' words, and 'selects' of the private methods out of them =====
/-- a private method of a class that the tables say can be made, by its rows of tables_1 -/
def lw_okq (q : MethodName × Nat) : Prop := (q.1.cls ≠ "java/lang/invoke/MethodHandle" ∧ q.1.cls ≠ "java/lang/invoke/VarHandle") ∧ Cond.instantiable q.1.cls q.2 ∈ tables_1 ∧ Cond.privateMethod q.1 ∈ tables_1 ∧ Cond.instanceMethod q.1 ∈ tables_1
theorem lw_p0 : lw_okq (⟨"java/lang/Throwable", "fillInStackTrace", "(I)Ljava/lang/Throwable;"⟩, 6) := ⟨⟨by decide +kernel, by decide +kernel⟩, List.mem_of_getElem? (i := 194) (by decide +kernel), List.mem_of_getElem? (i := 192) (by decide +kernel), List.mem_of_getElem? (i := 193) (by decide +kernel)⟩
theorem lw_p1 : lw_okq (⟨"WordBench", "sheetWithRow", "(II)LWordBench$Sheet;"⟩, 9) := ⟨⟨by decide +kernel, by decide +kernel⟩, List.mem_of_getElem? (i := 32) (by decide +kernel), List.mem_of_getElem? (i := 266) (by decide +kernel), List.mem_of_getElem? (i := 267) (by decide +kernel)⟩
theorem lw_p2 : lw_okq (⟨"WordBench", "sheetOf", "(I)LWordBench$Sheet;"⟩, 9) := ⟨⟨by decide +kernel, by decide +kernel⟩, List.mem_of_getElem? (i := 32) (by decide +kernel), List.mem_of_getElem? (i := 270) (by decide +kernel), List.mem_of_getElem? (i := 271) (by decide +kernel)⟩
theorem lw_p3 : lw_okq (⟨"WordBench", "readWord", "(II)I"⟩, 9) := ⟨⟨by decide +kernel, by decide +kernel⟩, List.mem_of_getElem? (i := 32) (by decide +kernel), List.mem_of_getElem? (i := 602) (by decide +kernel), List.mem_of_getElem? (i := 603) (by decide +kernel)⟩
theorem lw_p4 : lw_okq (⟨"WordBench", "lawOfRow", "(III)LWordBench$Law;"⟩, 9) := ⟨⟨by decide +kernel, by decide +kernel⟩, List.mem_of_getElem? (i := 32) (by decide +kernel), List.mem_of_getElem? (i := 626) (by decide +kernel), List.mem_of_getElem? (i := 627) (by decide +kernel)⟩
theorem lw_p5 : lw_okq (⟨"WordBench", "seekRun", "(III)I"⟩, 9) := ⟨⟨by decide +kernel, by decide +kernel⟩, List.mem_of_getElem? (i := 32) (by decide +kernel), List.mem_of_getElem? (i := 714) (by decide +kernel), List.mem_of_getElem? (i := 715) (by decide +kernel)⟩
theorem lw_p6 : lw_okq (⟨"WordBench", "runEnd", "(III)I"⟩, 9) := ⟨⟨by decide +kernel, by decide +kernel⟩, List.mem_of_getElem? (i := 32) (by decide +kernel), List.mem_of_getElem? (i := 718) (by decide +kernel), List.mem_of_getElem? (i := 719) (by decide +kernel)⟩
theorem lw_p7 : lw_okq (⟨"WordBench", "needSet", "(I)V"⟩, 9) := ⟨⟨by decide +kernel, by decide +kernel⟩, List.mem_of_getElem? (i := 32) (by decide +kernel), List.mem_of_getElem? (i := 745) (by decide +kernel), List.mem_of_getElem? (i := 746) (by decide +kernel)⟩
theorem lw_p8 : lw_okq (⟨"WordBench", "clashLetters", "(II)I"⟩, 9) := ⟨⟨by decide +kernel, by decide +kernel⟩, List.mem_of_getElem? (i := 32) (by decide +kernel), List.mem_of_getElem? (i := 750) (by decide +kernel), List.mem_of_getElem? (i := 751) (by decide +kernel)⟩
theorem lw_p9 : lw_okq (⟨"WordBench$NearLaw", "isNear", "([III)Z"⟩, 1) := ⟨⟨by decide +kernel, by decide +kernel⟩, List.mem_of_getElem? (i := 686) (by decide +kernel), List.mem_of_getElem? (i := 763) (by decide +kernel), List.mem_of_getElem? (i := 764) (by decide +kernel)⟩
theorem lw_p10 : lw_okq (⟨"WordBench$ShapeLaw", "fit", "([IIII)V"⟩, 7) := ⟨⟨by decide +kernel, by decide +kernel⟩, List.mem_of_getElem? (i := 651) (by decide +kernel), List.mem_of_getElem? (i := 774) (by decide +kernel), List.mem_of_getElem? (i := 775) (by decide +kernel)⟩
theorem lw_p11 : lw_okq (⟨"WordBench$ShapeLaw", "mostFor", "([III)I"⟩, 7) := ⟨⟨by decide +kernel, by decide +kernel⟩, List.mem_of_getElem? (i := 651) (by decide +kernel), List.mem_of_getElem? (i := 781) (by decide +kernel), List.mem_of_getElem? (i := 782) (by decide +kernel)⟩
theorem lw_p12 : lw_okq (⟨"WordBench", "needSearch", "(III)V"⟩, 9) := ⟨⟨by decide +kernel, by decide +kernel⟩, List.mem_of_getElem? (i := 32) (by decide +kernel), List.mem_of_getElem? (i := 802) (by decide +kernel), List.mem_of_getElem? (i := 803) (by decide +kernel)⟩
theorem lw_p13 : lw_okq (⟨"WordBench$Search", "hasShape", "()Z"⟩, 12) := ⟨⟨by decide +kernel, by decide +kernel⟩, List.mem_of_getElem? (i := 65) (by decide +kernel), List.mem_of_getElem? (i := 819) (by decide +kernel), List.mem_of_getElem? (i := 820) (by decide +kernel)⟩
theorem lw_p14 : lw_okq (⟨"WordBench$Search", "takeLook", "()Z"⟩, 12) := ⟨⟨by decide +kernel, by decide +kernel⟩, List.mem_of_getElem? (i := 65) (by decide +kernel), List.mem_of_getElem? (i := 832) (by decide +kernel), List.mem_of_getElem? (i := 833) (by decide +kernel)⟩
theorem lw_p15 : lw_okq (⟨"WordBench$Search", "putBehind", "()Z"⟩, 12) := ⟨⟨by decide +kernel, by decide +kernel⟩, List.mem_of_getElem? (i := 65) (by decide +kernel), List.mem_of_getElem? (i := 837) (by decide +kernel), List.mem_of_getElem? (i := 838) (by decide +kernel)⟩
def lw_privs_1 : List (MethodName × Nat) := [(⟨"java/lang/Throwable", "fillInStackTrace", "(I)Ljava/lang/Throwable;"⟩, 6), (⟨"WordBench", "sheetWithRow", "(II)LWordBench$Sheet;"⟩, 9), (⟨"WordBench", "sheetOf", "(I)LWordBench$Sheet;"⟩, 9), (⟨"WordBench", "readWord", "(II)I"⟩, 9), (⟨"WordBench", "lawOfRow", "(III)LWordBench$Law;"⟩, 9), (⟨"WordBench", "seekRun", "(III)I"⟩, 9), (⟨"WordBench", "runEnd", "(III)I"⟩, 9), (⟨"WordBench", "needSet", "(I)V"⟩, 9), (⟨"WordBench", "clashLetters", "(II)I"⟩, 9), (⟨"WordBench$NearLaw", "isNear", "([III)Z"⟩, 1), (⟨"WordBench$ShapeLaw", "fit", "([IIII)V"⟩, 7), (⟨"WordBench$ShapeLaw", "mostFor", "([III)I"⟩, 7), (⟨"WordBench", "needSearch", "(III)V"⟩, 9), (⟨"WordBench$Search", "hasShape", "()Z"⟩, 12), (⟨"WordBench$Search", "takeLook", "()Z"⟩, 12), (⟨"WordBench$Search", "putBehind", "()Z"⟩, 12)]
theorem lw_r1 : ∀ q ∈ lw_privs_1, lw_okq q := List.forall_mem_cons.mpr ⟨lw_p0, List.forall_mem_cons.mpr ⟨lw_p1, List.forall_mem_cons.mpr ⟨lw_p2, List.forall_mem_cons.mpr ⟨lw_p3, List.forall_mem_cons.mpr ⟨lw_p4, List.forall_mem_cons.mpr ⟨lw_p5, List.forall_mem_cons.mpr ⟨lw_p6, List.forall_mem_cons.mpr ⟨lw_p7, List.forall_mem_cons.mpr ⟨lw_p8, List.forall_mem_cons.mpr ⟨lw_p9, List.forall_mem_cons.mpr ⟨lw_p10, List.forall_mem_cons.mpr ⟨lw_p11, List.forall_mem_cons.mpr ⟨lw_p12, List.forall_mem_cons.mpr ⟨lw_p13, List.forall_mem_cons.mpr ⟨lw_p14, List.forall_mem_cons.mpr ⟨lw_p15, fun _ h => absurd h List.not_mem_nil⟩⟩⟩⟩⟩⟩⟩⟩⟩⟩⟩⟩⟩⟩⟩⟩
theorem lw_p16 : lw_okq (⟨"WordBench", "fillMap", "(LWordBench$LetterMap;ILWordBench$Sheet;I)V"⟩, 9) := ⟨⟨by decide +kernel, by decide +kernel⟩, List.mem_of_getElem? (i := 32) (by decide +kernel), List.mem_of_getElem? (i := 902) (by decide +kernel), List.mem_of_getElem? (i := 903) (by decide +kernel)⟩
theorem lw_p17 : lw_okq (⟨"WordBench$LetterMap", "imageSize", "(II)J"⟩, 4) := ⟨⟨by decide +kernel, by decide +kernel⟩, List.mem_of_getElem? (i := 881) (by decide +kernel), List.mem_of_getElem? (i := 919) (by decide +kernel), List.mem_of_getElem? (i := 920) (by decide +kernel)⟩
theorem lw_p18 : lw_okq (⟨"WordBench", "mapOf", "(I)LWordBench$LetterMap;"⟩, 9) := ⟨⟨by decide +kernel, by decide +kernel⟩, List.mem_of_getElem? (i := 32) (by decide +kernel), List.mem_of_getElem? (i := 934) (by decide +kernel), List.mem_of_getElem? (i := 935) (by decide +kernel)⟩
theorem lw_p19 : lw_okq (⟨"WordBench", "seekFailure", "(LWordBench$LetterMap;I)I"⟩, 9) := ⟨⟨by decide +kernel, by decide +kernel⟩, List.mem_of_getElem? (i := 32) (by decide +kernel), List.mem_of_getElem? (i := 971) (by decide +kernel), List.mem_of_getElem? (i := 972) (by decide +kernel)⟩
theorem lw_p20 : lw_okq (⟨"WordBench", "isFailure", "(LWordBench$LetterMap;I)Z"⟩, 9) := ⟨⟨by decide +kernel, by decide +kernel⟩, List.mem_of_getElem? (i := 32) (by decide +kernel), List.mem_of_getElem? (i := 975) (by decide +kernel), List.mem_of_getElem? (i := 976) (by decide +kernel)⟩
theorem lw_p21 : lw_okq (⟨"WordBench$ShapeLaw", "unknowns", "()I"⟩, 7) := ⟨⟨by decide +kernel, by decide +kernel⟩, List.mem_of_getElem? (i := 651) (by decide +kernel), List.mem_of_getElem? (i := 1013) (by decide +kernel), List.mem_of_getElem? (i := 1014) (by decide +kernel)⟩
theorem lw_p22 : lw_okq (⟨"WordBench$ShapeLaw", "takeOff", "(II)I"⟩, 7) := ⟨⟨by decide +kernel, by decide +kernel⟩, List.mem_of_getElem? (i := 651) (by decide +kernel), List.mem_of_getElem? (i := 1030) (by decide +kernel), List.mem_of_getElem? (i := 1031) (by decide +kernel)⟩
theorem lw_p23 : lw_okq (⟨"WordBench$ShapeLaw", "isLoose", "(II)Z"⟩, 7) := ⟨⟨by decide +kernel, by decide +kernel⟩, List.mem_of_getElem? (i := 651) (by decide +kernel), List.mem_of_getElem? (i := 1034) (by decide +kernel), List.mem_of_getElem? (i := 1035) (by decide +kernel)⟩
theorem lw_p24 : lw_okq (⟨"WordBench$ShapeLaw", "reachOn", "(II)I"⟩, 7) := ⟨⟨by decide +kernel, by decide +kernel⟩, List.mem_of_getElem? (i := 651) (by decide +kernel), List.mem_of_getElem? (i := 1038) (by decide +kernel), List.mem_of_getElem? (i := 1039) (by decide +kernel)⟩
theorem lw_p25 : lw_okq (⟨"WordBenchModel", "may", "(ZI)Z"⟩, 48) := ⟨⟨by decide +kernel, by decide +kernel⟩, List.mem_of_getElem? (i := 1050) (by decide +kernel), List.mem_of_getElem? (i := 1206) (by decide +kernel), List.mem_of_getElem? (i := 1207) (by decide +kernel)⟩
theorem lw_p26 : lw_okq (⟨"WordBenchModel", "isRow", "(III)Z"⟩, 48) := ⟨⟨by decide +kernel, by decide +kernel⟩, List.mem_of_getElem? (i := 1050) (by decide +kernel), List.mem_of_getElem? (i := 1214) (by decide +kernel), List.mem_of_getElem? (i := 1215) (by decide +kernel)⟩
theorem lw_p27 : lw_okq (⟨"WordBenchModel", "isSheet", "(I)Z"⟩, 48) := ⟨⟨by decide +kernel, by decide +kernel⟩, List.mem_of_getElem? (i := 1050) (by decide +kernel), List.mem_of_getElem? (i := 1218) (by decide +kernel), List.mem_of_getElem? (i := 1219) (by decide +kernel)⟩
theorem lw_p28 : lw_okq (⟨"WordBenchModel", "reads", "(II)Z"⟩, 48) := ⟨⟨by decide +kernel, by decide +kernel⟩, List.mem_of_getElem? (i := 1050) (by decide +kernel), List.mem_of_getElem? (i := 1234) (by decide +kernel), List.mem_of_getElem? (i := 1235) (by decide +kernel)⟩
theorem lw_p29 : lw_okq (⟨"WordBenchModel", "findRuns", "()V"⟩, 48) := ⟨⟨by decide +kernel, by decide +kernel⟩, List.mem_of_getElem? (i := 1050) (by decide +kernel), List.mem_of_getElem? (i := 1263) (by decide +kernel), List.mem_of_getElem? (i := 1264) (by decide +kernel)⟩
theorem lw_p30 : lw_okq (⟨"WordBenchModel", "isSet", "(I)Z"⟩, 48) := ⟨⟨by decide +kernel, by decide +kernel⟩, List.mem_of_getElem? (i := 1050) (by decide +kernel), List.mem_of_getElem? (i := 1275) (by decide +kernel), List.mem_of_getElem? (i := 1276) (by decide +kernel)⟩
theorem lw_p31 : lw_okq (⟨"WordBenchModel", "findClash", "(I[II)V"⟩, 48) := ⟨⟨by decide +kernel, by decide +kernel⟩, List.mem_of_getElem? (i := 1050) (by decide +kernel), List.mem_of_getElem? (i := 1279) (by decide +kernel), List.mem_of_getElem? (i := 1280) (by decide +kernel)⟩
def lw_privs_2 : List (MethodName × Nat) := [(⟨"WordBench", "fillMap", "(LWordBench$LetterMap;ILWordBench$Sheet;I)V"⟩, 9), (⟨"WordBench$LetterMap", "imageSize", "(II)J"⟩, 4), (⟨"WordBench", "mapOf", "(I)LWordBench$LetterMap;"⟩, 9), (⟨"WordBench", "seekFailure", "(LWordBench$LetterMap;I)I"⟩, 9), (⟨"WordBench", "isFailure", "(LWordBench$LetterMap;I)Z"⟩, 9), (⟨"WordBench$ShapeLaw", "unknowns", "()I"⟩, 7), (⟨"WordBench$ShapeLaw", "takeOff", "(II)I"⟩, 7), (⟨"WordBench$ShapeLaw", "isLoose", "(II)Z"⟩, 7), (⟨"WordBench$ShapeLaw", "reachOn", "(II)I"⟩, 7), (⟨"WordBenchModel", "may", "(ZI)Z"⟩, 48), (⟨"WordBenchModel", "isRow", "(III)Z"⟩, 48), (⟨"WordBenchModel", "isSheet", "(I)Z"⟩, 48), (⟨"WordBenchModel", "reads", "(II)Z"⟩, 48), (⟨"WordBenchModel", "findRuns", "()V"⟩, 48), (⟨"WordBenchModel", "isSet", "(I)Z"⟩, 48), (⟨"WordBenchModel", "findClash", "(I[II)V"⟩, 48)]
theorem lw_r2 : ∀ q ∈ lw_privs_2, lw_okq q := List.forall_mem_cons.mpr ⟨lw_p16, List.forall_mem_cons.mpr ⟨lw_p17, List.forall_mem_cons.mpr ⟨lw_p18, List.forall_mem_cons.mpr ⟨lw_p19, List.forall_mem_cons.mpr ⟨lw_p20, List.forall_mem_cons.mpr ⟨lw_p21, List.forall_mem_cons.mpr ⟨lw_p22, List.forall_mem_cons.mpr ⟨lw_p23, List.forall_mem_cons.mpr ⟨lw_p24, List.forall_mem_cons.mpr ⟨lw_p25, List.forall_mem_cons.mpr ⟨lw_p26, List.forall_mem_cons.mpr ⟨lw_p27, List.forall_mem_cons.mpr ⟨lw_p28, List.forall_mem_cons.mpr ⟨lw_p29, List.forall_mem_cons.mpr ⟨lw_p30, List.forall_mem_cons.mpr ⟨lw_p31, fun _ h => absurd h List.not_mem_nil⟩⟩⟩⟩⟩⟩⟩⟩⟩⟩⟩⟩⟩⟩⟩⟩
theorem lw_p32 : lw_okq (⟨"WordBenchModel", "isBarred", "(I[III)Z"⟩, 48) := ⟨⟨by decide +kernel, by decide +kernel⟩, List.mem_of_getElem? (i := 1050) (by decide +kernel), List.mem_of_getElem? (i := 1286) (by decide +kernel), List.mem_of_getElem? (i := 1287) (by decide +kernel)⟩
theorem lw_p33 : lw_okq (⟨"WordBenchModel", "isTurned", "([III)Z"⟩, 48) := ⟨⟨by decide +kernel, by decide +kernel⟩, List.mem_of_getElem? (i := 1050) (by decide +kernel), List.mem_of_getElem? (i := 1290) (by decide +kernel), List.mem_of_getElem? (i := 1291) (by decide +kernel)⟩
theorem lw_p34 : lw_okq (⟨"WordBenchModel", "comesOf", "([III[III)Z"⟩, 48) := ⟨⟨by decide +kernel, by decide +kernel⟩, List.mem_of_getElem? (i := 1050) (by decide +kernel), List.mem_of_getElem? (i := 1294) (by decide +kernel), List.mem_of_getElem? (i := 1295) (by decide +kernel)⟩
theorem lw_p35 : lw_okq (⟨"WordBenchModel", "fits", "([III[III)Z"⟩, 48) := ⟨⟨by decide +kernel, by decide +kernel⟩, List.mem_of_getElem? (i := 1050) (by decide +kernel), List.mem_of_getElem? (i := 1298) (by decide +kernel), List.mem_of_getElem? (i := 1299) (by decide +kernel)⟩
theorem lw_p36 : lw_okq (⟨"WordBenchModel", "maySearch", "(II)Z"⟩, 48) := ⟨⟨by decide +kernel, by decide +kernel⟩, List.mem_of_getElem? (i := 1050) (by decide +kernel), List.mem_of_getElem? (i := 1309) (by decide +kernel), List.mem_of_getElem? (i := 1310) (by decide +kernel)⟩
theorem lw_p37 : lw_okq (⟨"WordBenchModel", "beginSearch", "(III)V"⟩, 48) := ⟨⟨by decide +kernel, by decide +kernel⟩, List.mem_of_getElem? (i := 1050) (by decide +kernel), List.mem_of_getElem? (i := 1313) (by decide +kernel), List.mem_of_getElem? (i := 1314) (by decide +kernel)⟩
theorem lw_p38 : lw_okq (⟨"WordBenchModel", "next", "()Z"⟩, 48) := ⟨⟨by decide +kernel, by decide +kernel⟩, List.mem_of_getElem? (i := 1050) (by decide +kernel), List.mem_of_getElem? (i := 1317) (by decide +kernel), List.mem_of_getElem? (i := 1318) (by decide +kernel)⟩
theorem lw_p39 : lw_okq (⟨"WordBenchModel", "look", "()Z"⟩, 48) := ⟨⟨by decide +kernel, by decide +kernel⟩, List.mem_of_getElem? (i := 1050) (by decide +kernel), List.mem_of_getElem? (i := 1321) (by decide +kernel), List.mem_of_getElem? (i := 1322) (by decide +kernel)⟩
theorem lw_p40 : lw_okq (⟨"WordBenchModel", "keepsWay", "()Z"⟩, 48) := ⟨⟨by decide +kernel, by decide +kernel⟩, List.mem_of_getElem? (i := 1050) (by decide +kernel), List.mem_of_getElem? (i := 1325) (by decide +kernel), List.mem_of_getElem? (i := 1326) (by decide +kernel)⟩
theorem lw_p41 : lw_okq (⟨"WordBenchModel", "keepsLast", "(I[II)Z"⟩, 48) := ⟨⟨by decide +kernel, by decide +kernel⟩, List.mem_of_getElem? (i := 1050) (by decide +kernel), List.mem_of_getElem? (i := 1329) (by decide +kernel), List.mem_of_getElem? (i := 1330) (by decide +kernel)⟩
theorem lw_p42 : lw_okq (⟨"WordBenchModel", "write", "(I[II)V"⟩, 48) := ⟨⟨by decide +kernel, by decide +kernel⟩, List.mem_of_getElem? (i := 1050) (by decide +kernel), List.mem_of_getElem? (i := 1337) (by decide +kernel), List.mem_of_getElem? (i := 1338) (by decide +kernel)⟩
theorem lw_p43 : lw_okq (⟨"WordBenchModel", "isMap", "(I)Z"⟩, 48) := ⟨⟨by decide +kernel, by decide +kernel⟩, List.mem_of_getElem? (i := 1050) (by decide +kernel), List.mem_of_getElem? (i := 1357) (by decide +kernel), List.mem_of_getElem? (i := 1358) (by decide +kernel)⟩
theorem lw_p44 : lw_okq (⟨"WordBenchModel", "findImage", "(I[II)V"⟩, 48) := ⟨⟨by decide +kernel, by decide +kernel⟩, List.mem_of_getElem? (i := 1050) (by decide +kernel), List.mem_of_getElem? (i := 1361) (by decide +kernel), List.mem_of_getElem? (i := 1362) (by decide +kernel)⟩
theorem lw_p45 : lw_okq (⟨"WordBenchModel", "hasSquare", "()Z"⟩, 48) := ⟨⟨by decide +kernel, by decide +kernel⟩, List.mem_of_getElem? (i := 1050) (by decide +kernel), List.mem_of_getElem? (i := 1369) (by decide +kernel), List.mem_of_getElem? (i := 1370) (by decide +kernel)⟩
theorem lw_p46 : lw_okq (⟨"WordBenchModel", "stands", "(I)Z"⟩, 48) := ⟨⟨by decide +kernel, by decide +kernel⟩, List.mem_of_getElem? (i := 1050) (by decide +kernel), List.mem_of_getElem? (i := 1381) (by decide +kernel), List.mem_of_getElem? (i := 1382) (by decide +kernel)⟩
theorem lw_p47 : lw_okq (⟨"WordBenchModel", "findSteps", "(I)Z"⟩, 48) := ⟨⟨by decide +kernel, by decide +kernel⟩, List.mem_of_getElem? (i := 1050) (by decide +kernel), List.mem_of_getElem? (i := 1385) (by decide +kernel), List.mem_of_getElem? (i := 1386) (by decide +kernel)⟩
def lw_privs_3 : List (MethodName × Nat) := [(⟨"WordBenchModel", "isBarred", "(I[III)Z"⟩, 48), (⟨"WordBenchModel", "isTurned", "([III)Z"⟩, 48), (⟨"WordBenchModel", "comesOf", "([III[III)Z"⟩, 48), (⟨"WordBenchModel", "fits", "([III[III)Z"⟩, 48), (⟨"WordBenchModel", "maySearch", "(II)Z"⟩, 48), (⟨"WordBenchModel", "beginSearch", "(III)V"⟩, 48), (⟨"WordBenchModel", "next", "()Z"⟩, 48), (⟨"WordBenchModel", "look", "()Z"⟩, 48), (⟨"WordBenchModel", "keepsWay", "()Z"⟩, 48), (⟨"WordBenchModel", "keepsLast", "(I[II)Z"⟩, 48), (⟨"WordBenchModel", "write", "(I[II)V"⟩, 48), (⟨"WordBenchModel", "isMap", "(I)Z"⟩, 48), (⟨"WordBenchModel", "findImage", "(I[II)V"⟩, 48), (⟨"WordBenchModel", "hasSquare", "()Z"⟩, 48), (⟨"WordBenchModel", "stands", "(I)Z"⟩, 48), (⟨"WordBenchModel", "findSteps", "(I)Z"⟩, 48)]
theorem lw_r3 : ∀ q ∈ lw_privs_3, lw_okq q := List.forall_mem_cons.mpr ⟨lw_p32, List.forall_mem_cons.mpr ⟨lw_p33, List.forall_mem_cons.mpr ⟨lw_p34, List.forall_mem_cons.mpr ⟨lw_p35, List.forall_mem_cons.mpr ⟨lw_p36, List.forall_mem_cons.mpr ⟨lw_p37, List.forall_mem_cons.mpr ⟨lw_p38, List.forall_mem_cons.mpr ⟨lw_p39, List.forall_mem_cons.mpr ⟨lw_p40, List.forall_mem_cons.mpr ⟨lw_p41, List.forall_mem_cons.mpr ⟨lw_p42, List.forall_mem_cons.mpr ⟨lw_p43, List.forall_mem_cons.mpr ⟨lw_p44, List.forall_mem_cons.mpr ⟨lw_p45, List.forall_mem_cons.mpr ⟨lw_p46, List.forall_mem_cons.mpr ⟨lw_p47, fun _ h => absurd h List.not_mem_nil⟩⟩⟩⟩⟩⟩⟩⟩⟩⟩⟩⟩⟩⟩⟩⟩
theorem lw_p48 : lw_okq (⟨"WordBenchModel", "isLoose", "(II)Z"⟩, 48) := ⟨⟨by decide +kernel, by decide +kernel⟩, List.mem_of_getElem? (i := 1050) (by decide +kernel), List.mem_of_getElem? (i := 1389) (by decide +kernel), List.mem_of_getElem? (i := 1390) (by decide +kernel)⟩
def lw_privs_4 : List (MethodName × Nat) := [(⟨"WordBenchModel", "isLoose", "(II)Z"⟩, 48)]
theorem lw_r4 : ∀ q ∈ lw_privs_4, lw_okq q := List.forall_mem_cons.mpr ⟨lw_p48, fun _ h => absurd h List.not_mem_nil⟩
def lw_privs : List (MethodName × Nat) := lw_privs_1 ++ (lw_privs_2 ++ (lw_privs_3 ++ (lw_privs_4)))
def lw_tbl : List Cond := k2_sels lw_privs ++ tables_1
theorem lw_privs_ok : ∀ q ∈ lw_privs, lw_okq q := by
  show ∀ q ∈ lw_privs_1 ++ (lw_privs_2 ++ (lw_privs_3 ++ (lw_privs_4))), lw_okq q
  exact List.forall_mem_append.mpr ⟨lw_r1, List.forall_mem_append.mpr ⟨lw_r2, List.forall_mem_append.mpr ⟨lw_r3, lw_r4⟩⟩⟩
end
section
/-! ===== BEGIN words of one list among another's, by their places ===== -/
theorem goodIn_r {big : List Cond} (ws : List Cond) (ps : List Nat) (hp : ws = ps.filterMap (fun i => big[i]?)) (h : ws.all goodWord = true) : GoodIn big ws := by
  intro w hw
  have h1 := List.all_eq_true.mp h w hw
  rw [hp] at hw
  obtain ⟨i, -, hi⟩ := List.mem_filterMap.mp hw
  have hm : w ∈ big := by first | exact List.mem_of_getElem? hi | exact List.getElem?_mem hi
  exact ⟨hm, good_of_word h1⟩
theorem goodIn_app {big a b : List Cond} (ha : GoodIn big a) (hb : GoodIn big b) : GoodIn big (a ++ b) := fun w h => (List.mem_append.mp h).elim (ha w) (hb w)
theorem goodIn_ca {big a b : List Cond} {c : Cond} (ha : GoodIn big (c :: a)) (hb : GoodIn big b) : GoodIn big (c :: (a ++ b)) := fun w h => (List.mem_cons.mp h).elim (fun e => ha w (List.mem_cons.mpr (Or.inl e))) (fun h => (List.mem_append.mp h).elim (fun h => ha w (List.mem_cons.mpr (Or.inr h))) (hb w))
theorem goodIn_sub {big ws : List Cond} (hm : ∀ w ∈ ws, w ∈ big) (h : ws.all goodWord = true) : GoodIn big ws := fun w hw => ⟨hm w hw, good_of_word (List.all_eq_true.mp h w hw)⟩
/-! ===== END ===== -/

/-! my own: an exception that goes past rows of other kinds and into a row whose kind takes it; the rows' kinds may be resolved here for the first time -/
section CT
def ct_To (e : Env) (s : State) (f : JFrame) (a : Addr) (h : Handler) (v : Vm) : Prop := ∀ (Q : Handler → Pre) (E : CtlPost) (d : Bool) (acts : List Action), wp (findHandler f a) Q E e d acts s ↔ Q h d acts (s.setVm v)
theorem ct_row {Q : Handler → Pre} {E : CtlPost} {e : Env} {d : Bool} {acts : List Action} {s : State} {f : JFrame} {a : Addr} {x : ExceptionTableEntry} {t : List ExceptionTableEntry} {k : ClassId} {ce : Cell} (hx : covers x f.pc = true) (h0 : x.catchType ≠ 0)
    (hl : s.vm.ClassLinks e.platform f.method.cls x.catchType k) (hc : s.heap[a]? = some ce) (ho : ∀ z, ce.vm ≠ .statics z) (h1 : ∃ z, s.vm.classes[ce.cls]? = some z) (h2 : ∃ z, s.vm.classes[k]? = some z) :
    wp (findHandler.go f a (x :: t)) Q E e d acts s ↔ (if s.vm.assignable ce.cls k = true then Q (.found x.handlerPc) d acts (s.setVm (s.vm.noted f.method.cls x.catchType (.cls k))) else wp (findHandler.go f a t) Q E e d acts (s.setVm (s.vm.noted f.method.cls x.catchType (.cls k)))) := by
  have al : s.vm.Alike (s.vm.noted f.method.cls x.catchType (.cls k)) := (Vm.Alike.refl s.vm).noted _ _ _
  have as : (s.vm.noted f.method.cls x.catchType (.cls k)).assignable ce.cls k = s.vm.assignable ce.cls k := al.assignable _ _
  obtain ⟨g1, g2⟩ := (resolveClass_links e.toSetting hl).op (op := VmOp.resolveClass f.method.cls x.catchType) rfl
  obtain ⟨z1, h1⟩ := h1
  obtain ⟨z2, h2⟩ := h2
  obtain ⟨y1, i1, -⟩ := al.2.2 _ _ h1
  obtain ⟨y2, i2, -⟩ := al.2.2 _ _ h2
  simp only [covers] at hx
  cases hb : s.vm.assignable ce.cls k with
  | true =>
    rw [hb] at as
    simp [findHandler.go, hx, h0, g1, g2, hc, ho, i1, i2, as, VmOp.dirties, VmOp.acts]
  | false =>
    rw [hb] at as
    simp [findHandler.go, hx, h0, g1, g2, hc, ho, i1, i2, as, VmOp.dirties, VmOp.acts]
theorem ct_go {e : Env} {s0 : State} {f : JFrame} {a : Addr} {ce : Cell} (ho : ∀ z, ce.vm ≠ .statics z) (h1 : ∃ z, s0.vm.classes[ce.cls]? = some z) {x : ExceptionTableEntry} {suf : List ExceptionTableEntry} (hx : covers x f.pc = true) (h0 : x.catchType ≠ 0)
    {k : ClassId} (hl : s0.vm.ClassLinks e.platform f.method.cls x.catchType k) (hk : s0.vm.assignable ce.cls k = true) :
    ∀ (pre : List ExceptionTableEntry) (S : State), s0.WarmedH S.vm → S.heap[a]? = some ce → (∀ y ∈ pre, covers y f.pc = false ∨ (y.catchType ≠ 0 ∧ ∃ z, s0.vm.ClassLinks e.platform f.method.cls y.catchType z ∧ s0.vm.assignable ce.cls z = false)) →
      ∃ v, s0.WarmedH v ∧ ∀ (Q : Handler → Pre) (E : CtlPost) (d : Bool) (acts : List Action), wp (findHandler.go f a (pre ++ x :: suf)) Q E e d acts S ↔ Q (.found x.handlerPc) d acts (S.setVm v) := by
  have up : ∀ {S : State}, s0.WarmedH S.vm → ∀ {q : ClassId}, (∃ z, s0.vm.classes[q]? = some z) → ∃ z, S.vm.classes[q]? = some z := by
    intro S hW q ⟨z, hz⟩
    obtain ⟨y, hy, -⟩ := hW.alike.2.2 _ _ hz
    exact ⟨y, hy⟩
  intro pre
  induction pre with
  | nil =>
    intro S hW hc _
    obtain ⟨_, _, _, kt, hd, _, _, _, _, hkt, _, hopen⟩ := hl.here
    refine ⟨_, hW.noted hd hopen (State.rightAt_cls hl), fun Q E d acts => ?_⟩
    rw [List.nil_append, ct_row hx h0 (hW.classLinks hl) hc ho (up hW h1) (up hW ⟨kt, hkt⟩), if_pos (by rw [hW.alike.assignable]; exact hk)]
  | cons y ys ih =>
    intro S hW hc hp
    have hr := fun z (hz : z ∈ ys) => hp z (List.mem_cons_of_mem _ hz)
    by_cases hcv : covers y f.pc = true
    · rcases hp y List.mem_cons_self with h | ⟨hy0, z, hz, hno⟩
      · rw [h] at hcv; cases hcv
      · obtain ⟨_, _, _, kt, hd, _, _, _, _, hkt, _, hopen⟩ := hz.here
        obtain ⟨v, hv, hq⟩ := ih (S.setVm (S.vm.noted f.method.cls y.catchType (.cls z))) (hW.noted hd hopen (State.rightAt_cls hz)) hc hr
        refine ⟨v, hv, fun Q E d acts => ?_⟩
        rw [List.cons_append, ct_row hcv hy0 (hW.classLinks hz) hc ho (up hW h1) (up hW ⟨kt, hkt⟩), if_neg (by rw [hW.alike.assignable, hno]; exact Bool.false_ne_true)]
        exact hq Q E d acts
    · obtain ⟨v, hv, hq⟩ := ih S hW hc hr
      refine ⟨v, hv, fun Q E d acts => ?_⟩
      rw [List.cons_append, W.findHandler_go_skip (by simpa using hcv)]
      exact hq Q E d acts
theorem ct_step {tb : Tables} {e : Env} {s target : State} {g : JFrame} {c : Code} {below : List Frame} {a : Addr} (h : At s g.method c below) {pc : Nat} {v : Vm}
    (hf : ct_To e ((s.setTop g).pushFrame (.throwing a)) g a (.found pc) v) (hr : Steps tb e below ((s.setVm v).setTop { g with pc := pc, stack := [.ref a] }) target) : Steps tb e below ((s.setTop g).pushFrame (.throwing a)) target := by
  obtain ⟨hgo, hw⟩ := h.throwing a
  refine Steps.head hgo hw ?_
  have key : ∀ (u : State) (r : List Frame), ct_To e u g a (.found pc) v → (stepThrowing e u a (.java g :: r)).1 = (u.setVm v).setFrames (.java { g with pc := pc, stack := [.ref a] } :: r) := by
    intro u r hu
    simp only [stepThrowing, searchFrame, vmDo]
    generalize hg : Sem.go _ e false [] u = res
    obtain ⟨as, rfl, -⟩ := Sem.eq_ok_of hg (a := Handler.found pc) (s' := u.setVm v) (acts' := []) (by simp [hu _ _ _ _])
    rfl
  have two : ∀ (u : State) (F G : List Frame), ((u.setFrames F).setVm v).setFrames G = (u.setVm v).setFrames G := by
    intro u F G
    show ((u.setVm v).setFrames F).setFrames G = _
    rw [State.setFrames_setFrames]
  rw [stepThread_throwing (frames_entered h.top _), key _ _ hf]
  obtain ⟨g0, hg0⟩ := Option.isSome_iff_exists.mp h.top
  obtain ⟨r, hfr⟩ := State.topJava?_eq_some.mp hg0
  have hfr' : (s.setVm v).frames = .java g0 :: r := hfr
  rw [State.setTop_of_frames _ hfr'] at hr
  rw [hfr, List.tail_cons, State.pushFrame, two, State.setTop_of_frames _ hfr, two]
  exact hr
theorem ct_thru {p : Program} {l : Launch} {e : Env} {R : Room} {s : State} {m : MethodId} {args : Array Value} {below : List Frame} {meth : Method} {c : Code} {T : State} {locs : List Loc} {cells slots : Nat}
    (X : Stand p l e R s m args below meth c T locs cells slots) (a : Addr) {g : JFrame} (hg : g.method = m) {ce : Cell} (hc : T.heap[a]? = some ce) (ho : ce.vm.isStatics = false) (h1 : ∃ z, s.vm.classes[ce.cls]? = some z)
    (pre : List ExceptionTableEntry) (x : ExceptionTableEntry) (suf : List ExceptionTableEntry) (hs : c.exceptionTable.toList = pre ++ x :: suf)
    (hp : ∀ y ∈ pre, covers y g.pc = false ∨ (y.catchType ≠ 0 ∧ ∃ z, s.vm.ClassLinks e.platform m.cls y.catchType z ∧ s.vm.assignable ce.cls z = false)) (hx : covers x g.pc = true) (h0 : x.catchType ≠ 0) {k : ClassId} (hl : s.vm.ClassLinks e.platform m.cls x.catchType k) (hk : s.vm.assignable ce.cls k = true) :
    ∃ v, Stand p l e R s m args below meth c (T.setVm v) locs cells slots ∧ ∀ target, Steps p.tables e below ((T.setVm v).setTop { g with pc := x.handlerPc, stack := [.ref a] }) target → Steps p.tables e below ((T.setTop g).pushFrame (.throwing a)) target := by
  subst hg
  obtain ⟨v, hv, hq⟩ := ct_go (e := e) (f := g) (a := a) (VmData.ne_statics_of ho) h1 (suf := suf) hx h0 hl hk pre ((T.setTop g).pushFrame (.throwing a)) X.warmed hc hp
  refine ⟨v, X.noted hv, fun target hr => ct_step X.here (fun Q E d acts => ?_) hr⟩
  rw [W.findHandler_eq (s := (T.setTop g).pushFrame (.throwing a)) (meth := meth) (code := c) X.method' X.code, hs]
  exact hq Q E d acts
end CT
/-! ===== BEGIN exceptions that leave a method, and their catching by the caller (launches without stack traces) ===== -/
section VXA
/-! The laws vx_back, vx_callV, vx_callS, vx_callSW, vx_throw0, vx_throwS follow proofs of the library, with one case more: JvmDerived/Free/Laws.lean (Back.of_free), Shelf42/LK1.lean (callV, callS), Shelf/KitTraced.lean (throwNew0V, throwNewS). -/
/-- where a method has thrown q: the class by its name, the cell, what was written, the world -/
def vx_T (XC : String → State → State → Prop) (st : State) (q : Addr) (t : State) (mc ms : Nat) (free : Addr → Prop) : Prop :=
  ∃ (E : String) (ce : Cell) (L : List Loc), XC E st t ∧ t.heap[q]? = some ce ∧ ce.vm = .none ∧ st.vm.findClass E = some ce.cls ∧ st.WarmedH t.vm ∧ st.sameButNew ({ t with vm := st.vm } : State) L mc ms ∧ ∀ z ∈ L, free z.base
def vx_Q (Qc : Array Value → State → Outcome → State → Prop) (XC : String → State → State → Prop) (mc ms : Nat) (free : Addr → Prop) : Array Value → State → Outcome → State → Prop := fun a st o t =>
  (Qc a st o t ∧ ∃ L, FrameEnd st o t L mc ms ∧ ∀ q ∈ L, free q.base) ∨ ∃ q, o = .threw q ∧ vx_T XC st q t mc ms free
/-- a callee that returns or throws -/
def vx_Met (l : Launch) (y : MethodName) (ws : List Cond) (rm : Room) (Pc : Array Value → State → Prop) (Qc : Array Value → State → Outcome → State → Prop) (XC : String → State → State → Prop) (mc ms : Nat) (free : Addr → Prop) : Prop :=
  MetFree l y (headSpec ws rm) Pc (fun _ _ _ _ _ => True) (vx_Q Qc XC mc ms free)
def vx_Post (XC : String → State → State → Prop) (mc ms : Nat) (free : Addr → Prop) : Pt → Array Value → Addr → Pt → Prop := fun A a q B =>
  ∃ (g : JFrame) (mk : MethodId) (t : State) (L : List Loc) (E : String) (ce : Cell), B.U.heap = t.heap ∧ B.U.vm = t.vm ∧ XC E (A.U.calling g mk a) t ∧ t.heap[q]? = some ce ∧ ce.vm = .none ∧ A.U.vm.findClass E = some ce.cls ∧ B.locs = A.locs ++ L ∧ (∀ z ∈ L, free z.base) ∧ B.cells = A.cells + mc ∧ B.slots = A.slots + ms
def vx_Back (l : Launch) (R : Room) (p : Program) (e : Env) (below : List Frame) (s : State) (sargs : Array Value) (y : MethodName) (len W9 : Nat)
    (Pre : Pt → Array Value → Prop) (Post : Pt → Array Value → Option Value → Pt → Prop) (PostX : Pt → Array Value → Addr → Pt → Prop) : Prop :=
  ∀ (m : MethodId) (meth : Method) (c : Code) (A : Pt) (g : JFrame) (ig : Instr) (mk : MethodId) (a : Array Value),
    Stand p l e R s m sargs below meth c A.U A.locs A.cells A.slots → g.method = m → g.locals.size = c.maxLocals → decode c.code g.pc = .ok (ig, len) →
    2 * g.monitorRoom + (g.stack.map fun v => v.category).sum ≤ W9 → A.U.methodNamed? y = some mk → Pre A a →
    (∃ (v : Option Value) (B : Pt), Stand p l e R s m sargs below meth c B.U B.locs B.cells B.slots ∧ Post A a v B ∧
      Steps p.tables e below (doInvoke e (A.U.setTop g) [] mk a).1 (B.U.setTop { g with pc := g.pc + len, stack := v.toList ++ g.stack })) ∨
    (∃ (q : Addr) (B : Pt), Stand p l e R s m sargs below meth c B.U B.locs B.cells B.slots ∧ PostX A a q B ∧
      Steps p.tables e below (doInvoke e (A.U.setTop g) [] mk a).1 ((B.U.setTop g).pushFrame (.throwing q)))
section Payer
variable {l : Launch} {R : Room} {p : Program} {e : Env} {below : List Frame} {s : State} {sargs : Array Value} {y : MethodName} {len W9 : Nat}
theorem vx_back {ws : List Cond} {rm : Room} {Pc : Array Value → State → Prop} {Qc : Array Value → State → Outcome → State → Prop} {XC : String → State → State → Prop} {mc ms : Nat} {free : Addr → Prop} {bytes : ByteArray} {maxL : Nat} {ret : Option FieldType}
    (hM : vx_Met l y ws rm Pc Qc XC mc ms free) (hblind : FrameBlind Pc) (hrc : rm.cells = mc) (hrs : rm.slots = ms)
    (hframes : rm.frames + 1 ≤ R.frames) (hlocals : W9 + (maxL + 11) + rm.locals ≤ R.locals)
    (hws : ∀ w ∈ ws, ∀ a' U, s.WarmedH U.vm → w.before a' U = true) (hcode : Cond.code y bytes maxL ret ∈ ws) (hinit : ∀ a' U, s.WarmedH U.vm → (Cond.initialized y.cls).before a' U = true) :
    vx_Back l R p e below s sargs y len W9 (PreOf R mc ms Pc) (PostOf Qc mc ms free) (vx_Post XC mc ms free) := by
  intro m meth c A g ig mk a X hg hsize hdg hW hn hp
  have h1 : (headSpec ws rm).pre.before a A.U = true := atoms_intro fun w hw => hws w hw _ _ X.warmed
  have h2 : (Cond.code y bytes maxL ret).before a A.U = true := hws _ hcode _ _ X.warmed
  have h3 : (Cond.initialized y.cls).before a A.U = true := hinit _ _ X.warmed
  have h4 : A.cells + (headSpec ws rm).room.cells ≤ R.cells := by rw [show (headSpec ws rm).room.cells = mc from hrc]; exact hp.1
  have h5 : A.slots + (headSpec ws rm).room.slots ≤ R.slots := by rw [show (headSpec ws rm).room.slots = ms from hrs]; exact hp.2.1
  have hPc : Pc a (A.U.calling g mk a) := hblind _ _ _ _ hp.2.2
  obtain ⟨U, Ls, c0, s0⟩ := A
  dsimp only [Pt.U, Pt.locs, Pt.cells, Pt.slots] at h1 h2 h3 h4 h5 X hn hPc ⊢
  obtain ⟨methY, cY, hmY, hcY, -, hlY, -, -, -, -⟩ := Cond.code_spec hn h2
  obtain ⟨kY, hkY, -⟩ := className_of_methodNamed hn
  have hinitY : kY.init = .initialized := Cond.initialized_spec (findClass_of_methodNamed hn) hkY h3
  have h : At U g.method c below := by rw [hg]; exact X.here
  have hlocals9 : W9 + (maxL + 11) + (headSpec ws rm).room.locals ≤ R.locals := hlocals
  have happ : (headSpec ws rm).appliesLoose y e.platform (U.calling g mk a) = true :=
    Spec.appliesLoose_calling (g := g) h hdg hn hkY hinitY
      (X.room_calling (g := g) (R' := (headSpec ws rm).room) hsize hmY hcY hframes (by rw [hlY]; omega) h4 h5) h1
  obtain ⟨mid, hmid⟩ := h.above
  have hfr : (U.setTop g).frames = (.java g :: mid) ++ below := by rw [State.frames_setTop' g h.top, hmid]; rfl
  obtain ⟨o, s₂, hsteps, -, hend, hq⟩ := Steps.callFree hM p X.admits X.cas X.clock (acts := []) hfr happ hPc trivial
  have hq' : vx_Q Qc XC mc ms free a (U.calling g mk a) o s₂ := hq
  rw [State.frames_setTop' g h.top] at hend
  obtain ⟨g₀, hg0⟩ := Option.isSome_iff_exists.mp h.top
  obtain ⟨r, hr⟩ := State.topJava?_eq_some.mp hg0
  have hr' : (({ U with heap := s₂.heap, slotsUsed := s₂.slotsUsed } : State).setVm s₂.vm).frames = .java g₀ :: r := hr
  rcases hq' with ⟨hqc, L, hfe, hL⟩ | ⟨q, rfl, E, ce, L, hx, hce, hcv, hcl, hW₂, hsm, hL⟩
  · obtain ⟨⟨v, rfl⟩, hW₂, e2, q2, q3, q4, q5, q6⟩ := id hfe
    have e3 : s₂ = ({ (U.calling g mk a).setFrames s₂.frames with heap := s₂.heap, slotsUsed := s₂.slotsUsed } : State).setVm s₂.vm := by
      have : s₂ = ({ s₂ with vm := (U.calling g mk a).vm } : State).setVm s₂.vm := rfl
      rw [e2] at this
      exact this
    obtain ⟨c₂, i₂, len₂, hc₂, hd₂, hf₂⟩ := hend
    have hW' : U.WarmedH s₂.vm := hW₂
    have hcc : c₂ = c := by
      have h1 : s₂.code? g.method = U.code? g.method := by
        rw [State.code?_eq, State.code?_eq, hW'.alike.method?]
      exact Option.some.inj (hc₂.symm.trans (h1.trans h.code))
    subst hcc
    have hlen : len₂ = len := by rw [hdg] at hd₂; cases hd₂; rfl
    subst hlen
    have hs₂ : s₂ = (({ U with heap := s₂.heap, slotsUsed := s₂.slotsUsed } : State).setVm s₂.vm).setTop { g with pc := g.pc + len₂, stack := v.toList ++ g.stack } := by
      refine e3.trans ?_
      rw [hf₂, State.calling_eq h.top, State.setFrames_setFrames, State.setTop_of_frames _ hr', hr]
      rfl
    have hsame : U.sameButNew ({ U with heap := s₂.heap, slotsUsed := s₂.slotsUsed } : State) L mc ms := by
      refine ⟨?_, q2, q3, q4, q5, q6⟩
      obtain ⟨t, ht, -⟩ := State.frames_cons hr
      show ({ U with heap := s₂.heap, slotsUsed := s₂.slotsUsed } : State) = { U.setFrames U.frames with heap := s₂.heap, slotsUsed := s₂.slotsUsed }
      rw [State.setFrames_self ht]
    subst hg
    refine Or.inl ⟨v, ⟨(({ U with heap := s₂.heap, slotsUsed := s₂.slotsUsed } : State).setVm s₂.vm), Ls ++ L, c0 + mc, s0 + ms⟩,
      ⟨X.admits, X.cas, X.clock, X.frames, X.room, X.hears, X.method, X.code, (X.here.setHeapUsed s₂.heap s₂.slotsUsed).setVm hW'.alike, X.tail, State.WarmedH.trans X.warmed hW', X.limits, X.bytes, X.same.trans (hsame.setVm s.vm)⟩,
      ⟨g, mk, s₂, L, rfl, rfl, hqc, rfl, hL, rfl, rfl⟩, ?_⟩
    show Steps p.tables e below _ ((({ U with heap := s₂.heap, slotsUsed := s₂.slotsUsed } : State).setVm s₂.vm).setTop { g with pc := g.pc + len₂, stack := v.toList ++ g.stack })
    rw [← hs₂]
    exact hsteps
  · obtain ⟨e2, q2, q3, q4, q5, q6⟩ := id hsm
    have e3 : s₂ = ({ (U.calling g mk a).setFrames s₂.frames with heap := s₂.heap, slotsUsed := s₂.slotsUsed } : State).setVm s₂.vm := by
      have : s₂ = ({ s₂ with vm := (U.calling g mk a).vm } : State).setVm s₂.vm := rfl
      rw [e2] at this
      exact this
    have hf₂ : s₂.frames = .throwing q :: .java g :: U.frames.tail := hend
    have hW' : U.WarmedH s₂.vm := hW₂
    have hs₂ : s₂ = ((({ U with heap := s₂.heap, slotsUsed := s₂.slotsUsed } : State).setVm s₂.vm).setTop g).pushFrame (.throwing q) := by
      refine e3.trans ?_
      rw [hf₂, State.calling_eq h.top, State.setFrames_setFrames, State.pushFrame, State.frames_setTop _ hr', State.setTop_of_frames _ hr', State.setFrames_setFrames, hr]
      rfl
    have hsame : U.sameButNew ({ U with heap := s₂.heap, slotsUsed := s₂.slotsUsed } : State) L mc ms := by
      refine ⟨?_, q2, q3, q4, q5, q6⟩
      obtain ⟨t, ht, -⟩ := State.frames_cons hr
      show ({ U with heap := s₂.heap, slotsUsed := s₂.slotsUsed } : State) = { U.setFrames U.frames with heap := s₂.heap, slotsUsed := s₂.slotsUsed }
      rw [State.setFrames_self ht]
    subst hg
    refine Or.inr ⟨q, ⟨(({ U with heap := s₂.heap, slotsUsed := s₂.slotsUsed } : State).setVm s₂.vm), Ls ++ L, c0 + mc, s0 + ms⟩,
      ⟨X.admits, X.cas, X.clock, X.frames, X.room, X.hears, X.method, X.code, (X.here.setHeapUsed s₂.heap s₂.slotsUsed).setVm hW'.alike, X.tail, State.WarmedH.trans X.warmed hW', X.limits, X.bytes, X.same.trans (hsame.setVm s.vm)⟩,
      ⟨g, mk, s₂, L, E, ce, rfl, rfl, hx, hce, hcv, hcl, rfl, hL, rfl, rfl⟩, ?_⟩
    show Steps p.tables e below _ (((({ U with heap := s₂.heap, slotsUsed := s₂.slotsUsed } : State).setVm s₂.vm).setTop g).pushFrame (.throwing q))
    rw [← hs₂]
    exact hsteps
end Payer
section Calls
variable {p : Program} {l : Launch} {e : Env} {R : Room} {s : State} {m : MethodId} {args : Array Value} {below : List Frame} {meth : Method} {c : Code} {T : State} {locs : List Loc} {cells slots : Nat}
theorem vx_callV (X : Stand p l e R s m args below meth c T locs cells slots) (hexec : p.tables.exec = Jvm.exec) {own C : String} {index : Nat} {y : MethodName} {bytes : ByteArray} {maxL : Nat} {ret : Option FieldType}
    (hown : s.vm.findClass own = some m.cls) (hlink : (Cond.methodLink own index y).before args s = true) (hinst : (Cond.instanceMethod y).before args s = true) (hsel : (Cond.selects C y y).before args s = true)
    (hcode : (Cond.code y bytes maxL ret).before args s = true) (hy : y.cls ≠ "java/lang/invoke/MethodHandle" ∧ y.cls ≠ "java/lang/invoke/VarHandle")
    {W9 : Nat} {Pre : Pt → Array Value → Prop} {Post : Pt → Array Value → Option Value → Pt → Prop} {PostX : Pt → Array Value → Addr → Pt → Prop} (hK : vx_Back l R p e below s args y 3 W9 Pre Post PostX)
    {b : Addr} {cellB : Cell} (hcell : T.heap[b]? = some cellB) (hobj : cellB.vm.isStatics = false) (hcls : s.vm.findClass C = some cellB.cls)
    {g : JFrame} (hg : g.method = m) (hsize : g.locals.size = c.maxLocals) {argsL rest : List Value} (hlen : ∀ sig, parseMethodDescriptor y.desc = some sig → argsL.length = sig.parameters.length)
    (hstack : g.stack = argsL.reverse ++ .ref b :: rest) (hW : 2 * g.monitorRoom + (rest.map fun v => v.category).sum ≤ W9) (hdg : decode c.code g.pc = .ok (.invokevirtual index, 3))
    (hpre : ∀ vm₁, s.WarmedH vm₁ → Pre ⟨T.setVm vm₁, locs, cells, slots⟩ (Value.ref b :: argsL).toArray) :
    (∃ (v : Option Value) (vm₁ : Vm) (B : Pt), s.WarmedH vm₁ ∧ Stand p l e R s m args below meth c B.U B.locs B.cells B.slots ∧ Post ⟨T.setVm vm₁, locs, cells, slots⟩ (Value.ref b :: argsL).toArray v B ∧
      ∀ target, Steps p.tables e below (B.U.setTop { g with pc := g.pc + 3, stack := v.toList ++ rest }) target → Steps p.tables e below (T.setTop g) target) ∨
    (∃ (q : Addr) (vm₁ : Vm) (B : Pt), s.WarmedH vm₁ ∧ Stand p l e R s m args below meth c B.U B.locs B.cells B.slots ∧ PostX ⟨T.setVm vm₁, locs, cells, slots⟩ (Value.ref b :: argsL).toArray q B ∧
      Steps p.tables e below (T.setTop g) ((B.U.setTop { g with stack := rest }).pushFrame (.throwing q))) := by
  obtain ⟨mk, methM, hnamed, hmethM, hstM, habM⟩ := Cond.instanceMethod_spec hinst
  obtain ⟨methM', cM, hmethM', -, -, -, -, -, -, hsigM⟩ := Cond.code_spec hnamed hcode
  cases hmethM.symm.trans hmethM'
  obtain ⟨c2, r2, m2, q1, q2, q3, q4, kP, hkP, hkPi⟩ := Cond.selects_spec hsel
  cases hcls.symm.trans q1
  cases (State.methodFound?_of_named hnamed hy).symm.trans q2
  cases hnamed.symm.trans q3
  have hselP : selectMethod e.platform s.vm cellB.cls mk = .method mk := by rw [Launch.admits_selectMethod X.admits]; exact q4
  obtain ⟨vm₁, X₁, hstep₁⟩ := X.invokevirtual hexec hown hlink hnamed hmethM hstM hkP hkPi hy (a := b) (cell := cellB) hcell
    (fun z h => by rw [h] at hobj; cases hobj) hselP hmethM habM hkP hkPi (g := g) hg (argsL := argsL) (rest := rest) (hlen _ hsigM) hstack hdg
  rcases hK m meth c ⟨T.setVm vm₁, locs, cells, slots⟩ { g with stack := rest } (.invokevirtual index) mk (Value.ref b :: argsL).toArray X₁ hg hsize hdg hW (X₁.named hnamed) (hpre vm₁ X₁.warmed) with ⟨v, B, X', hpost, hsteps⟩ | ⟨q, B, X', hpost, hsteps⟩
  · exact Or.inl ⟨v, vm₁, B, X₁.warmed, X', hpost, fun target h => hstep₁ _ fun acts => by rw [doInvoke_state]; exact hsteps.trans h⟩
  · exact Or.inr ⟨q, vm₁, B, X₁.warmed, X', hpost, hstep₁ _ fun acts => by rw [doInvoke_state]; exact hsteps⟩
theorem vx_callS (X : Stand p l e R s m args below meth c T locs cells slots) (hexec : p.tables.exec = Jvm.exec) {own : String} {index : Nat} {y : MethodName} {bytes : ByteArray} {maxL : Nat} {ret : Option FieldType}
    (hown : s.vm.findClass own = some m.cls) (hlink : (Cond.methodLink own index y).before args s = true) (hstat : (Cond.static y).before args s = true) (hinit : (Cond.initialized y.cls).before args s = true)
    (hcode : (Cond.code y bytes maxL ret).before args s = true) (hy : y.cls ≠ "java/lang/invoke/MethodHandle" ∧ y.cls ≠ "java/lang/invoke/VarHandle")
    {W9 : Nat} {Pre : Pt → Array Value → Prop} {Post : Pt → Array Value → Option Value → Pt → Prop} {PostX : Pt → Array Value → Addr → Pt → Prop} (hK : vx_Back l R p e below s args y 3 W9 Pre Post PostX)
    {g : JFrame} (hg : g.method = m) (hsize : g.locals.size = c.maxLocals) {argsL rest : List Value} (hlen : ∀ sig, parseMethodDescriptor y.desc = some sig → argsL.length = sig.parameters.length)
    (hstack : g.stack = argsL.reverse ++ rest) (hW : 2 * g.monitorRoom + (rest.map fun v => v.category).sum ≤ W9) (hdg : decode c.code g.pc = .ok (.invokestatic index, 3))
    (hpre : ∀ vm₁, s.WarmedH vm₁ → Pre ⟨T.setVm vm₁, locs, cells, slots⟩ argsL.toArray) :
    (∃ (v : Option Value) (vm₁ : Vm) (B : Pt), s.WarmedH vm₁ ∧ Stand p l e R s m args below meth c B.U B.locs B.cells B.slots ∧ Post ⟨T.setVm vm₁, locs, cells, slots⟩ argsL.toArray v B ∧
      ∀ target, Steps p.tables e below (B.U.setTop { g with pc := g.pc + 3, stack := v.toList ++ rest }) target → Steps p.tables e below (T.setTop g) target) ∨
    (∃ (q : Addr) (vm₁ : Vm) (B : Pt), s.WarmedH vm₁ ∧ Stand p l e R s m args below meth c B.U B.locs B.cells B.slots ∧ PostX ⟨T.setVm vm₁, locs, cells, slots⟩ argsL.toArray q B ∧
      Steps p.tables e below (T.setTop g) ((B.U.setTop { g with stack := rest }).pushFrame (.throwing q))) := by
  obtain ⟨mk, hnamed⟩ := Cond.code_named hcode
  obtain ⟨methM, cM, hmethM, -, -, -, -, -, -, hsigM⟩ := Cond.code_spec hnamed hcode
  have hstatic : methM.isStatic = true := Cond.static_spec hnamed hmethM hstat
  obtain ⟨kP, hkP, -⟩ := className_of_methodNamed hnamed
  have hinitP : kP.init = .initialized := Cond.initialized_spec (findClass_of_methodNamed hnamed) hkP hinit
  obtain ⟨vm₁, X₁, hstep₁⟩ := X.invokestatic hexec hown hlink hnamed hmethM hstatic hkP hinitP hy (g := g) hg (argsL := argsL) (rest := rest) (hlen _ hsigM) hstack hdg
  rcases hK m meth c ⟨T.setVm vm₁, locs, cells, slots⟩ { g with stack := rest } (.invokestatic index) mk argsL.toArray X₁ hg hsize hdg hW (X₁.named hnamed) (hpre vm₁ X₁.warmed) with ⟨v, B, X', hpost, hsteps⟩ | ⟨q, B, X', hpost, hsteps⟩
  · exact Or.inl ⟨v, vm₁, B, X₁.warmed, X', hpost, fun target h => hstep₁ _ fun acts => by rw [doInvoke_state]; exact hsteps.trans h⟩
  · exact Or.inr ⟨q, vm₁, B, X₁.warmed, X', hpost, hstep₁ _ fun acts => by rw [doInvoke_state]; exact hsteps⟩
end Calls
theorem vx_cls {s : State} {T : State} {vm₁ : Vm} {E : String} {k : ClassId} (hW : s.WarmedH vm₁) (h : (T.setVm vm₁).vm.findClass E = some k) : s.vm.findClass E = some k := by
  have h1 : vm₁.findClass E = some k := h
  rw [hW.alike.findClass] at h1
  exact h1
/-- the method's frame g, with q thrown over it -/
def vx_W (p : Program) (l : Launch) (e : Env) (R : Room) (s : State) (m : MethodId) (args : Array Value) (below : List Frame) (meth : Method) (c : Code) (H : Heap) (locs : List Loc) (cells slots : Nat) (Q : State → Prop) (g : JFrame) (q : Addr) : Prop :=
  ∀ T : State, T.heap = H → Stand p l e R s m args below meth c T locs cells slots → ∃ t, Steps p.tables e below ((T.setTop g).pushFrame (.throwing q)) t ∧ Q t
def vx_Run (p : Program) (l : Launch) (e : Env) (R : Room) (s : State) (m : MethodId) (args : Array Value) (below : List Frame) (meth : Method) (c : Code) (H : Heap) (locs : List Loc) (cells slots mc ms : Nat) (g : JFrame) (rest : List Value) (Qa : State → Outcome → State → Prop) (XC : String → State → State → Prop) (free : Addr → Prop) : Prop :=
  ∀ T : State, T.heap = H → Stand p l e R s m args below meth c T locs cells slots →
    (∃ (v : Option Value) (st₀ t T' : State) (L : List Loc), st₀.heap = H ∧ Stand p l e R s m args below meth c T' (locs ++ L) (cells + mc) (slots + ms) ∧ (∀ q ∈ L, free q.base) ∧ T'.heap = t.heap ∧ T'.vm = t.vm ∧ Qa st₀ (.returned v) t ∧
      Goes p e below T g T' { g with pc := g.pc + 3, stack := v.toList ++ rest }) ∨
    (∃ (q : Addr) (st₀ t T' : State) (L : List Loc) (E : String) (ce : Cell), st₀.heap = H ∧ Stand p l e R s m args below meth c T' (locs ++ L) (cells + mc) (slots + ms) ∧ (∀ z ∈ L, free z.base) ∧ T'.heap = t.heap ∧ T'.vm = t.vm ∧ XC E st₀ t ∧ t.heap[q]? = some ce ∧ ce.vm = .none ∧ s.vm.findClass E = some ce.cls ∧
      Steps p.tables e below (T.setTop g) ((T'.setTop { g with stack := rest }).pushFrame (.throwing q)))
def vx_X {S : Type} (px : S → Prop) (B : String → S → State → Prop) (A : Nat → Prop) : String → State → State → Prop := fun E st t => ∃ u : S, px u ∧ B E u t ∧ va_F A st t
section Runs
variable {p : Program} {l : Launch} {e : Env} {R : Room} {s : State} {m : MethodId} {args : Array Value} {below : List Frame} {meth : Method} {c : Code} {H : Heap} {locs : List Loc} {cells slots : Nat}
variable {y : MethodName} {bytes cc : ByteArray} {maxL nL mc ms n index : Nat} {ret : Option FieldType} {ws : List Cond} {rm : Room} {Pc : Array Value → State → Prop} {Qc : Array Value → State → Outcome → State → Prop} {XC : String → State → State → Prop} {free : Addr → Prop} {Ts : List Cond} {own C : String} {b : Addr} {As rest : List Value} {g : JFrame}
theorem vx_callBack (cb : CallB R s args own index y bytes maxL ret ws rm mc ms n) (hM : vx_Met l y ws rm Pc Qc XC mc ms free) (hbl : FrameBlind Pc) : vx_Back l R p e below s args y 3 8 (PreOf R mc ms Pc) (PostOf Qc mc ms free) (vx_Post XC mc ms free) := by
  obtain ⟨hrc, hrs, hfr, hlo, hws, hcw, -, hini, -⟩ := cb
  exact vx_back (bytes := bytes) (maxL := maxL) (ret := ret) hM hbl hrc hrs hfr hlo hws hcw (fun a' U hW => word_at hW (Or.inl (by first | rfl | simp [Cond.onTables, Cond.keeps, Cond.steady])) hini)
theorem vx_runV (S : CallFix p m c cc nL s args Ts own) (hM : vx_Met l y ws rm Pc Qc XC mc ms free) (cw : CallW R s args own C index y bytes maxL ret ws rm mc ms n) (hp : PreV s H C b Pc As)
    (hg : g.method = m) (hn : As.length = n) (hsize : g.locals.size = nL) (hstack : g.stack = As.reverse ++ .ref b :: rest) (hW : 2 * g.monitorRoom + (rest.map fun v => v.category).sum ≤ 8) (hdg : decode cc g.pc = .ok (.invokevirtual index, 3)) (hf : cells + mc ≤ R.cells ∧ slots + ms ≤ R.slots) :
    vx_Run p l e R s m args below meth c H locs cells slots mc ms g rest (Qc (Value.ref b :: As).toArray) XC free := by
  have hK : vx_Back l R p e below s args y 3 8 (PreOf R mc ms Pc) (PostOf Qc mc ms free) (vx_Post XC mc ms free) := vx_callBack cw.1 hM hp.1
  obtain ⟨⟨-, -, -, -, -, -, hcode, -, hy, hlen, hl⟩, hin, hse⟩ := cw
  obtain ⟨hx, hb, hml, ho, -⟩ := S
  obtain ⟨-, ⟨cellB, hcB, hoB, hclB⟩, hPc⟩ := hp
  intro T hT X
  rcases vx_callV X hx (C := C) (bytes := bytes) (maxL := maxL) (ret := ret) ho hl hin hse hcode hy hK (by rw [hT]; exact hcB) hoB hclB hg (hsize.trans hml.symm) (argsL := As) (rest := rest) (fun sig h => hn.trans (hlen sig h)) hstack hW (by rw [hb]; exact hdg)
    (fun vm₁ hW₁ => ⟨hf.1, hf.2, hPc (T.setVm vm₁) hT hW₁⟩) with ⟨v, vm₁, ⟨U', l2, c2, s2⟩, hW₁, X', ⟨g', mk, t, L, e1, e2, hq, h1, hL, h2, h3⟩, st⟩ | ⟨q, vm₁, ⟨U', l2, c2, s2⟩, hW₁, X', ⟨g', mk, t, L, E, ce, e1, e2, hq, hce, hcv, hcl, h1, hL, h2, h3⟩, st⟩
  · dsimp only [Pt.U, Pt.locs, Pt.cells, Pt.slots] at X' e1 e2 h1 h2 h3 st
    subst h1; subst h2; subst h3
    exact Or.inl ⟨v, (T.setVm vm₁).calling g' mk (Value.ref b :: As).toArray, t, U', L, hT, X', hL, e1, e2, hq, st⟩
  · dsimp only [Pt.U, Pt.locs, Pt.cells, Pt.slots] at X' e1 e2 h1 h2 h3 st hcl
    subst h1; subst h2; subst h3
    exact Or.inr ⟨q, (T.setVm vm₁).calling g' mk (Value.ref b :: As).toArray, t, U', L, E, ce, hT, X', hL, e1, e2, hq, hce, hcv, vx_cls hW₁ hcl, st⟩
theorem vx_runS (S : CallFix p m c cc nL s args Ts own) (hM : vx_Met l y ws rm Pc Qc XC mc ms free) (cw : CallB R s args own index y bytes maxL ret ws rm mc ms n ∧ (Cond.static y).before args s = true) (hp : PreS s H Pc As)
    (hg : g.method = m) (hn : As.length = n) (hsize : g.locals.size = nL) (hstack : g.stack = As.reverse ++ rest) (hW : 2 * g.monitorRoom + (rest.map fun v => v.category).sum ≤ 8) (hdg : decode cc g.pc = .ok (.invokestatic index, 3)) (hf : cells + mc ≤ R.cells ∧ slots + ms ≤ R.slots) :
    vx_Run p l e R s m args below meth c H locs cells slots mc ms g rest (Qc As.toArray) XC free := by
  have hK : vx_Back l R p e below s args y 3 8 (PreOf R mc ms Pc) (PostOf Qc mc ms free) (vx_Post XC mc ms free) := vx_callBack cw.1 hM hp.1
  obtain ⟨⟨-, -, -, -, -, -, hcode, hini, hy, hlen, hl⟩, hstt⟩ := cw
  obtain ⟨hx, hb, hml, ho, -⟩ := S
  intro T hT X
  rcases vx_callS X hx (bytes := bytes) (maxL := maxL) (ret := ret) ho hl hstt hini hcode hy hK hg (hsize.trans hml.symm) (argsL := As) (rest := rest) (fun sig h => hn.trans (hlen sig h)) hstack hW (by rw [hb]; exact hdg)
    (fun vm₁ hW₁ => ⟨hf.1, hf.2, hp.2 (T.setVm vm₁) hT hW₁⟩) with ⟨v, vm₁, ⟨U', l2, c2, s2⟩, hW₁, X', ⟨g', mk, t, L, e1, e2, hq, h1, hL, h2, h3⟩, st⟩ | ⟨q, vm₁, ⟨U', l2, c2, s2⟩, hW₁, X', ⟨g', mk, t, L, E, ce, e1, e2, hq, hce, hcv, hcl, h1, hL, h2, h3⟩, st⟩
  · dsimp only [Pt.U, Pt.locs, Pt.cells, Pt.slots] at X' e1 e2 h1 h2 h3 st
    subst h1; subst h2; subst h3
    exact Or.inl ⟨v, (T.setVm vm₁).calling g' mk As.toArray, t, U', L, hT, X', hL, e1, e2, hq, st⟩
  · dsimp only [Pt.U, Pt.locs, Pt.cells, Pt.slots] at X' e1 e2 h1 h2 h3 st hcl
    subst h1; subst h2; subst h3
    exact Or.inr ⟨q, (T.setVm vm₁).calling g' mk As.toArray, t, U', L, E, ce, hT, X', hL, e1, e2, hq, hce, hcv, vx_cls hW₁ hcl, st⟩
end Runs
section Rows
variable {p : Program} {l : Launch} {e : Env} {R : Room} {s : State} {m : MethodId} {args : Array Value} {below : List Frame} {meth : Method} {c : Code} {H : Heap} {locs : List Loc} {cells slots : Nat} {Q : State → Prop}
variable {mc ms : Nat} {free : Addr → Prop} {A0 A1 : Nat → Prop} {H0 : Heap} {a : Array Value} {pc : Nat} {ls : Array Slot} {st0 rest : List Value}
theorem vx_keep {st₀ t T' : State} {L : List Loc} (h0 : st₀.heap = H) (e1 : T'.heap = t.heap) (hS : va_S A0 H0 H locs) (hA : ∀ q, q < H.size → A1 q → A0 q) (hf : ∀ q, free q → A0 q) (hL : ∀ q ∈ L, free q.base) (hF : va_F A1 st₀ t) :
    H.size ≤ T'.heap.size ∧ (∀ q : Nat, q < H.size → ¬ A1 q → T'.heap[q]? = H[q]?) ∧ va_S A0 H0 T'.heap (locs ++ L) := by
  obtain ⟨hz, hk⟩ := hF
  rw [h0] at hz hk
  exact ⟨by rw [e1]; exact hz, fun q h1 h2 => by rw [e1]; exact hk q h1 h2,
    ⟨Nat.le_trans hS.1 (by rw [e1]; exact hz), fun q h1 h2 => by rw [e1, hk q (Nat.lt_of_lt_of_le h1 hS.1) (fun z => h2 (hA q (Nat.lt_of_lt_of_le h1 hS.1) z))]; exact hS.2.1 q h1 h2, fun q hq => by
      rcases List.mem_append.mp hq with h | h
      · exact hS.2.2 q h
      · exact hf _ (hL q h)⟩⟩
theorem vx_calli {S SX : Type} {post : Int32 → S → Prop} {px : SX → Prop} {B : S → State → Prop} {BX : String → SX → State → Prop} {AX : Nat → Prop} (hr : vx_Run p l e R s m args below meth c H locs cells slots mc ms (F0 m pc ls st0) rest (va_Qi post B A1 a) (vx_X px BX AX) free) (hS : va_S A0 H0 H locs) (hA : ∀ q, q < H.size → A1 q → A0 q) (hf : ∀ q, free q → A0 q) (hAX : ∀ q, q < H.size → AX q → A0 q)
    (kx : ∀ (E : String) (ce : Cell) (q9 : Addr) (u : SX) (t : State) (H1 : Heap) (locs1 : List Loc), t.heap = H1 → s.vm.Alike t.vm → px u → BX E u t → H.size ≤ H1.size → (∀ q : Nat, q < H.size → ¬ AX q → H1[q]? = H[q]?) → va_S A0 H0 H1 locs1 → H1[q9]? = some ce → ce.vm = .none → s.vm.findClass E = some ce.cls → vx_W p l e R s m args below meth c H1 locs1 (cells + mc) (slots + ms) Q (F0 m pc ls rest) q9)
    (kk : ∀ (r : Int32) (u : S) (t : State) (H1 : Heap) (locs1 : List Loc), t.heap = H1 → s.vm.Alike t.vm → post r u → B u t → H.size ≤ H1.size → (∀ q : Nat, q < H.size → ¬ A1 q → H1[q]? = H[q]?) → va_S A0 H0 H1 locs1 → W p l e R s m args below meth c H1 locs1 (cells + mc) (slots + ms) Q (F0 m (pc + 3) ls (.int r :: rest))) : W p l e R s m args below meth c H locs cells slots Q (F0 m pc ls st0) := by
  intro T hT X
  rcases hr T hT X with ⟨v, st₀, t, T', L, h0, X', hL, e1, e2, ⟨⟨r, u, hv, hp, hb⟩, hF⟩, st⟩ | ⟨q, st₀, t, T', L, E, ce, h0, X', hL, e1, e2, ⟨u, hp, hb, hF⟩, hce, hcv, hcl, st⟩
  · cases hv
    obtain ⟨k1, k2, k3⟩ := vx_keep h0 e1 hS hA hf hL hF
    obtain ⟨t2, a1, b1⟩ := kk r u t T'.heap (locs ++ L) e1.symm (by rw [← e2]; exact X'.warmed.alike) hp hb k1 k2 k3 T' rfl X'
    exact ⟨t2, st t2 a1, b1⟩
  · obtain ⟨k1, k2, k3⟩ := vx_keep h0 e1 hS hAX hf hL hF
    obtain ⟨t2, a1, b1⟩ := kx E ce q u t T'.heap (locs ++ L) e1.symm (by rw [← e2]; exact X'.warmed.alike) hp hb k1 k2 k3 (by rw [e1]; exact hce) hcv hcl T' rfl X'
    exact ⟨t2, st.trans a1, b1⟩
theorem vx_calll {S SX : Type} {post : Int64 → S → Prop} {px : SX → Prop} {B : S → State → Prop} {BX : String → SX → State → Prop} {AX : Nat → Prop} (hr : vx_Run p l e R s m args below meth c H locs cells slots mc ms (F0 m pc ls st0) rest (va_Ql post B A1 a) (vx_X px BX AX) free) (hS : va_S A0 H0 H locs) (hA : ∀ q, q < H.size → A1 q → A0 q) (hf : ∀ q, free q → A0 q) (hAX : ∀ q, q < H.size → AX q → A0 q)
    (kx : ∀ (E : String) (ce : Cell) (q9 : Addr) (u : SX) (t : State) (H1 : Heap) (locs1 : List Loc), t.heap = H1 → s.vm.Alike t.vm → px u → BX E u t → H.size ≤ H1.size → (∀ q : Nat, q < H.size → ¬ AX q → H1[q]? = H[q]?) → va_S A0 H0 H1 locs1 → H1[q9]? = some ce → ce.vm = .none → s.vm.findClass E = some ce.cls → vx_W p l e R s m args below meth c H1 locs1 (cells + mc) (slots + ms) Q (F0 m pc ls rest) q9)
    (kk : ∀ (r : Int64) (u : S) (t : State) (H1 : Heap) (locs1 : List Loc), t.heap = H1 → s.vm.Alike t.vm → post r u → B u t → H.size ≤ H1.size → (∀ q : Nat, q < H.size → ¬ A1 q → H1[q]? = H[q]?) → va_S A0 H0 H1 locs1 → W p l e R s m args below meth c H1 locs1 (cells + mc) (slots + ms) Q (F0 m (pc + 3) ls (.long r :: rest))) : W p l e R s m args below meth c H locs cells slots Q (F0 m pc ls st0) := by
  intro T hT X
  rcases hr T hT X with ⟨v, st₀, t, T', L, h0, X', hL, e1, e2, ⟨⟨r, u, hv, hp, hb⟩, hF⟩, st⟩ | ⟨q, st₀, t, T', L, E, ce, h0, X', hL, e1, e2, ⟨u, hp, hb, hF⟩, hce, hcv, hcl, st⟩
  · cases hv
    obtain ⟨k1, k2, k3⟩ := vx_keep h0 e1 hS hA hf hL hF
    obtain ⟨t2, a1, b1⟩ := kk r u t T'.heap (locs ++ L) e1.symm (by rw [← e2]; exact X'.warmed.alike) hp hb k1 k2 k3 T' rfl X'
    exact ⟨t2, st t2 a1, b1⟩
  · obtain ⟨k1, k2, k3⟩ := vx_keep h0 e1 hS hAX hf hL hF
    obtain ⟨t2, a1, b1⟩ := kx E ce q u t T'.heap (locs ++ L) e1.symm (by rw [← e2]; exact X'.warmed.alike) hp hb k1 k2 k3 (by rw [e1]; exact hce) hcv hcl T' rfl X'
    exact ⟨t2, st.trans a1, b1⟩
theorem vx_callf {S SX : Type} {post : UInt32 → S → Prop} {px : SX → Prop} {B : S → State → Prop} {BX : String → SX → State → Prop} {AX : Nat → Prop} (hr : vx_Run p l e R s m args below meth c H locs cells slots mc ms (F0 m pc ls st0) rest (va_Qf post B A1 a) (vx_X px BX AX) free) (hS : va_S A0 H0 H locs) (hA : ∀ q, q < H.size → A1 q → A0 q) (hf : ∀ q, free q → A0 q) (hAX : ∀ q, q < H.size → AX q → A0 q)
    (kx : ∀ (E : String) (ce : Cell) (q9 : Addr) (u : SX) (t : State) (H1 : Heap) (locs1 : List Loc), t.heap = H1 → s.vm.Alike t.vm → px u → BX E u t → H.size ≤ H1.size → (∀ q : Nat, q < H.size → ¬ AX q → H1[q]? = H[q]?) → va_S A0 H0 H1 locs1 → H1[q9]? = some ce → ce.vm = .none → s.vm.findClass E = some ce.cls → vx_W p l e R s m args below meth c H1 locs1 (cells + mc) (slots + ms) Q (F0 m pc ls rest) q9)
    (kk : ∀ (r : UInt32) (u : S) (t : State) (H1 : Heap) (locs1 : List Loc), t.heap = H1 → s.vm.Alike t.vm → post r u → B u t → H.size ≤ H1.size → (∀ q : Nat, q < H.size → ¬ A1 q → H1[q]? = H[q]?) → va_S A0 H0 H1 locs1 → W p l e R s m args below meth c H1 locs1 (cells + mc) (slots + ms) Q (F0 m (pc + 3) ls (.float r :: rest))) : W p l e R s m args below meth c H locs cells slots Q (F0 m pc ls st0) := by
  intro T hT X
  rcases hr T hT X with ⟨v, st₀, t, T', L, h0, X', hL, e1, e2, ⟨⟨r, u, hv, hp, hb⟩, hF⟩, st⟩ | ⟨q, st₀, t, T', L, E, ce, h0, X', hL, e1, e2, ⟨u, hp, hb, hF⟩, hce, hcv, hcl, st⟩
  · cases hv
    obtain ⟨k1, k2, k3⟩ := vx_keep h0 e1 hS hA hf hL hF
    obtain ⟨t2, a1, b1⟩ := kk r u t T'.heap (locs ++ L) e1.symm (by rw [← e2]; exact X'.warmed.alike) hp hb k1 k2 k3 T' rfl X'
    exact ⟨t2, st t2 a1, b1⟩
  · obtain ⟨k1, k2, k3⟩ := vx_keep h0 e1 hS hAX hf hL hF
    obtain ⟨t2, a1, b1⟩ := kx E ce q u t T'.heap (locs ++ L) e1.symm (by rw [← e2]; exact X'.warmed.alike) hp hb k1 k2 k3 (by rw [e1]; exact hce) hcv hcl T' rfl X'
    exact ⟨t2, st.trans a1, b1⟩
theorem vx_calld {S SX : Type} {post : UInt64 → S → Prop} {px : SX → Prop} {B : S → State → Prop} {BX : String → SX → State → Prop} {AX : Nat → Prop} (hr : vx_Run p l e R s m args below meth c H locs cells slots mc ms (F0 m pc ls st0) rest (va_Qd post B A1 a) (vx_X px BX AX) free) (hS : va_S A0 H0 H locs) (hA : ∀ q, q < H.size → A1 q → A0 q) (hf : ∀ q, free q → A0 q) (hAX : ∀ q, q < H.size → AX q → A0 q)
    (kx : ∀ (E : String) (ce : Cell) (q9 : Addr) (u : SX) (t : State) (H1 : Heap) (locs1 : List Loc), t.heap = H1 → s.vm.Alike t.vm → px u → BX E u t → H.size ≤ H1.size → (∀ q : Nat, q < H.size → ¬ AX q → H1[q]? = H[q]?) → va_S A0 H0 H1 locs1 → H1[q9]? = some ce → ce.vm = .none → s.vm.findClass E = some ce.cls → vx_W p l e R s m args below meth c H1 locs1 (cells + mc) (slots + ms) Q (F0 m pc ls rest) q9)
    (kk : ∀ (r : UInt64) (u : S) (t : State) (H1 : Heap) (locs1 : List Loc), t.heap = H1 → s.vm.Alike t.vm → post r u → B u t → H.size ≤ H1.size → (∀ q : Nat, q < H.size → ¬ A1 q → H1[q]? = H[q]?) → va_S A0 H0 H1 locs1 → W p l e R s m args below meth c H1 locs1 (cells + mc) (slots + ms) Q (F0 m (pc + 3) ls (.double r :: rest))) : W p l e R s m args below meth c H locs cells slots Q (F0 m pc ls st0) := by
  intro T hT X
  rcases hr T hT X with ⟨v, st₀, t, T', L, h0, X', hL, e1, e2, ⟨⟨r, u, hv, hp, hb⟩, hF⟩, st⟩ | ⟨q, st₀, t, T', L, E, ce, h0, X', hL, e1, e2, ⟨u, hp, hb, hF⟩, hce, hcv, hcl, st⟩
  · cases hv
    obtain ⟨k1, k2, k3⟩ := vx_keep h0 e1 hS hA hf hL hF
    obtain ⟨t2, a1, b1⟩ := kk r u t T'.heap (locs ++ L) e1.symm (by rw [← e2]; exact X'.warmed.alike) hp hb k1 k2 k3 T' rfl X'
    exact ⟨t2, st t2 a1, b1⟩
  · obtain ⟨k1, k2, k3⟩ := vx_keep h0 e1 hS hAX hf hL hF
    obtain ⟨t2, a1, b1⟩ := kx E ce q u t T'.heap (locs ++ L) e1.symm (by rw [← e2]; exact X'.warmed.alike) hp hb k1 k2 k3 (by rw [e1]; exact hce) hcv hcl T' rfl X'
    exact ⟨t2, st.trans a1, b1⟩
theorem vx_callv {S SX : Type} {post : S → Prop} {px : SX → Prop} {B : S → State → Prop} {BX : String → SX → State → Prop} {AX : Nat → Prop} (hr : vx_Run p l e R s m args below meth c H locs cells slots mc ms (F0 m pc ls st0) rest (va_Qv post B A1 a) (vx_X px BX AX) free) (hS : va_S A0 H0 H locs) (hA : ∀ q, q < H.size → A1 q → A0 q) (hf : ∀ q, free q → A0 q) (hAX : ∀ q, q < H.size → AX q → A0 q)
    (kx : ∀ (E : String) (ce : Cell) (q9 : Addr) (u : SX) (t : State) (H1 : Heap) (locs1 : List Loc), t.heap = H1 → s.vm.Alike t.vm → px u → BX E u t → H.size ≤ H1.size → (∀ q : Nat, q < H.size → ¬ AX q → H1[q]? = H[q]?) → va_S A0 H0 H1 locs1 → H1[q9]? = some ce → ce.vm = .none → s.vm.findClass E = some ce.cls → vx_W p l e R s m args below meth c H1 locs1 (cells + mc) (slots + ms) Q (F0 m pc ls rest) q9)
    (kk : ∀ (u : S) (t : State) (H1 : Heap) (locs1 : List Loc), t.heap = H1 → s.vm.Alike t.vm → post u → B u t → H.size ≤ H1.size → (∀ q : Nat, q < H.size → ¬ A1 q → H1[q]? = H[q]?) → va_S A0 H0 H1 locs1 → W p l e R s m args below meth c H1 locs1 (cells + mc) (slots + ms) Q (F0 m (pc + 3) ls (rest))) : W p l e R s m args below meth c H locs cells slots Q (F0 m pc ls st0) := by
  intro T hT X
  rcases hr T hT X with ⟨v, st₀, t, T', L, h0, X', hL, e1, e2, ⟨⟨u, hv, hp, hb⟩, hF⟩, st⟩ | ⟨q, st₀, t, T', L, E, ce, h0, X', hL, e1, e2, ⟨u, hp, hb, hF⟩, hce, hcv, hcl, st⟩
  · cases hv
    obtain ⟨k1, k2, k3⟩ := vx_keep h0 e1 hS hA hf hL hF
    obtain ⟨t2, a1, b1⟩ := kk u t T'.heap (locs ++ L) e1.symm (by rw [← e2]; exact X'.warmed.alike) hp hb k1 k2 k3 T' rfl X'
    exact ⟨t2, st t2 a1, b1⟩
  · obtain ⟨k1, k2, k3⟩ := vx_keep h0 e1 hS hAX hf hL hF
    obtain ⟨t2, a1, b1⟩ := kx E ce q u t T'.heap (locs ++ L) e1.symm (by rw [← e2]; exact X'.warmed.alike) hp hb k1 k2 k3 (by rw [e1]; exact hce) hcv hcl T' rfl X'
    exact ⟨t2, st.trans a1, b1⟩
/-- caught by the row x of this method's table; the rows ahead don't take it -/
theorem vx_catch {own name : String} {E : String} {ce : Cell} {q : Addr} (hown : s.vm.findClass own = some m.cls) (pre : List ExceptionTableEntry) (x : ExceptionTableEntry) (suf : List ExceptionTableEntry) (hsplit : c.exceptionTable.toList = pre ++ x :: suf)
    (hpass : ∀ z ∈ pre, covers z pc = false ∨ (z.catchType ≠ 0 ∧ ∃ nm : String, (Cond.classLink own z.catchType nm).before args s = true ∧ va_Nc E nm s)) (hx : covers x pc = true) (h0 : x.catchType ≠ 0)
    (hlink : (Cond.classLink own x.catchType name).before args s = true) (hcast : (Cond.castable E name).before args s = true) (hcell : H[q]? = some ce) (hv : ce.vm = .none) (hcl : s.vm.findClass E = some ce.cls)
    (kk : W p l e R s m args below meth c H locs cells slots Q (F0 m x.handlerPc ls [.ref q])) : vx_W p l e R s m args below meth c H locs cells slots Q (F0 m pc ls rest) q := by
  intro T hT X
  have hpl : e.platform.magicAccessors = ({} : Platform).magicAccessors := by rw [X.admits.platform]
  obtain ⟨c3, c4, hc3, hc4, hasg⟩ := Cond.castable_spec hcast
  cases Option.some.inj (hc3.symm.trans hcl)
  obtain ⟨c5, hc5, hcl5⟩ := Cond.classLink_spec hown hlink e.platform hpl
  cases Option.some.inj (hc4.symm.trans hc5)
  obtain ⟨vm', X', st⟩ := ct_thru X q (g := F0 m pc ls rest) rfl (by rw [hT]; exact hcell) (by rw [hv]; rfl) (by obtain ⟨k9, h9, -⟩ := Vm.findClass_spec hcl; exact ⟨k9, h9⟩) pre x suf hsplit
    (fun z hz => by
      rcases hpass z hz with h | ⟨hz0, nm, hl1, hn1⟩
      · exact Or.inl h
      · obtain ⟨c6, hc6, hcl6⟩ := Cond.classLink_spec hown hl1 e.platform hpl
        obtain ⟨a8, b8, h1, h2, h3⟩ := hn1
        cases Option.some.inj (h1.symm.trans hcl)
        cases Option.some.inj (h2.symm.trans hc6)
        exact Or.inr ⟨hz0, _, hcl6, h3⟩) hx h0 hcl5 hasg
  obtain ⟨t, a1, b1⟩ := kk (T.setVm vm') hT X'
  exact ⟨t, st t a1, b1⟩
end Rows
section Ends
variable {p : Program} {l : Launch} {e : Env} {R : Room} {s : State} {m : MethodId} {args : Array Value} {below : List Frame} {meth : Method} {c : Code} {H : Heap} {locs : List Loc} {cells slots : Nat} {Q : State → Prop}
variable {mc ms : Nat} {free : Addr → Prop} {A0 A1 : Nat → Prop} {H0 : Heap} {a : Array Value} {ls : Array Slot} {st0 rest : List Value}
variable {Qc : Array Value → State → Outcome → State → Prop} {XC : String → State → State → Prop}
/-- what a body that may throw owes at its end -/
def vx_MQ (below : List Frame) (Qc : Array Value → State → Outcome → State → Prop) (XC : String → State → State → Prop) (a : Array Value) (s : State) (mc ms : Nat) (free : Addr → Prop) : State → Prop := fun t =>
  ∃ o, t.status = .running ∧ Ended t below o ∧ vx_Q Qc XC mc ms free a s o t
theorem vx_ret {g : JFrame} {mc ms : Nat} (k : W p l e R s m args below meth c H locs cells slots (MQ below Qc args s mc ms free) g) : W p l e R s m args below meth c H locs cells slots (vx_MQ below Qc XC args s mc ms free) g := by
  intro T hT X
  obtain ⟨t, a1, o, b1, b2, b3, b4⟩ := k T hT X
  exact ⟨t, a1, o, b1, b2, Or.inl ⟨b3, b4⟩⟩
/-- not caught here: it goes on to the caller -/
theorem vx_widen {g : JFrame} {q : Addr} {k n : Nat} (h1 : cells ≤ k) (h2 : slots ≤ n) (kk : vx_W p l e R s m args below meth c H locs k n Q g q) : vx_W p l e R s m args below meth c H locs cells slots Q g q := fun T hT X => kk T hT (stand_widen X h1 h2)
theorem vx_out {pc : Nat} {E : String} {ce : Cell} {q : Addr} {mc ms : Nat} (hout : ∀ x ∈ c.exceptionTable.toList, covers x pc = false) (hlocks : meth.locks = false) (hcell : H[q]? = some ce) (hv : ce.vm = .none) (hcl : s.vm.findClass E = some ce.cls)
    (hx : ∀ t : State, t.heap = H → s.vm.Alike t.vm → XC E s t) (hf : ∀ z ∈ locs, free z.base) (hc : cells ≤ mc) (hs : slots ≤ ms) :
    vx_W p l e R s m args below meth c H locs cells slots (vx_MQ below Qc XC args s mc ms free) (F0 m pc ls rest) q := by
  intro T hT X
  obtain ⟨st1, hrun, hend, hW, hsm⟩ := X.leaveThrown q (g := F0 m pc ls rest) rfl rfl rfl hout hlocks
  have hcell9 : (T.setFrames (.throwing q :: below)).heap[q]? = some ce := by
    show T.heap[q]? = some ce
    rw [hT]; exact hcell
  exact ⟨_, st1, .threw q, hrun, hend, Or.inr ⟨q, rfl, E, ce, locs, hx _ hT hW.alike, hcell9, hv, hcl, hW, hsm.mono hc hs, hf⟩⟩
theorem vx_frame {U : State} {k n : Nat} (h : s.sameButNew ({ U with vm := s.vm } : State) locs k n) : s.heap.size ≤ U.heap.size ∧ ∀ q : Nat, q < s.heap.size → (∀ z ∈ locs, z.base ≠ q) → U.heap[q]? = s.heap[q]? := by
  obtain ⟨-, h2, -, -, -, h6⟩ := h
  refine ⟨h2, fun q hq hz => ?_⟩
  obtain ⟨c9, e1, e2, e3, e4⟩ := h6 q _ (Array.getElem?_eq_getElem hq)
  have hs : c9.slots = (s.heap[q]).slots := Array.ext_getElem? fun i => e4 i fun hm => hz _ hm rfl
  have h9 : c9 = s.heap[q] := by
    rw [hs] at e2
    exact e2
  have e5 : U.heap[q]? = some c9 := e1
  rw [e5, h9, Array.getElem?_eq_getElem hq]
/-- the words of a throw but the four that speak of the heap -/
def vx_no (w : Cond) : Bool := decide (w ≠ .isRef (.static Bundle.tN "UNASSIGNED_STACK" Bundle.steD)) && decide (w ≠ .isRef (.static Bundle.tN "SUPPRESSED_SENTINEL" Bundle.listD)) && decide (w ≠ .laysStatic Bundle.tN "UNASSIGNED_STACK" Bundle.steD) && decide (w ≠ .laysStatic Bundle.tN "SUPPRESSED_SENTINEL" Bundle.listD)
def vx_at0 (own : String) (ic : Nat) (X : String) (names : List String) : List Cond := (Bundle.ownAtoms0 own ic X names).filter vx_no
def vx_atS (own : String) (ic : Nat) (X : String) (names : List String) : List Cond := (Bundle.ownAtoms own ic X names).filter vx_no
/-- a word that the tables alone decide, or a good one -/
def vx_ot (w : Cond) : Bool := w.onTables || goodWord w
theorem vx_ot_at {args a' : Array Value} {s U : State} {w : Cond} (hW : s.WarmedH U.vm) (hvm : s.vm = U.vm) (hg : vx_ot w = true) (h : w.before args s = true) : w.before a' U = true := by
  simp only [vx_ot, Bool.or_eq_true] at hg
  rcases hg with hg | hg
  · exact va_tabs hg hvm h
  · exact word_at hW (good_of_word hg) h
/-- a list's words: the good ones out of the method's own list, the others by premises of their own -/
theorem vx_hat {args : Array Value} {s : State} {L B : List Cond} (h1 : ∀ w ∈ L.filter goodWord, w.before args s = true) (h2 : ∀ w ∈ L.filter (fun w => !goodWord w), w ∈ B) (h3 : ∀ w ∈ B, w.before args s = true) : ∀ w ∈ L, w.before args s = true := by
  intro w hw
  by_cases g : goodWord w = true
  · exact h1 w (List.mem_filter.mpr ⟨hw, g⟩)
  · refine h3 w (h2 w (List.mem_filter.mpr ⟨hw, ?_⟩))
    show (!goodWord w) = true
    cases hgw : goodWord w
    · rfl
    · exact absurd hgw g
theorem vx_c {args : Array Value} {s : State} {w : Cond} {B : List Cond} (h : w.before args s = true) (t : ∀ w ∈ B, w.before args s = true) : ∀ w' ∈ w :: B, w'.before args s = true := fun w' h' => (List.mem_cons.mp h').elim (fun e => by rw [e]; exact h) (t w')
theorem vx_n {args : Array Value} {s : State} : ∀ w ∈ ([] : List Cond), w.before args s = true := fun _ h => nomatch h
theorem vx_own {args : Array Value} {s : State} {L : List Cond} (h1 : ∀ w ∈ L.filter vx_no, w.before args s = true)
    (hU : (Cond.isRef (.static Bundle.tN "UNASSIGNED_STACK" Bundle.steD)).before args s = true) (hN : (Cond.isRef (.static Bundle.tN "SUPPRESSED_SENTINEL" Bundle.listD)).before args s = true)
    (lU : (Cond.laysStatic Bundle.tN "UNASSIGNED_STACK" Bundle.steD).before args s = true) (lN : (Cond.laysStatic Bundle.tN "SUPPRESSED_SENTINEL" Bundle.listD).before args s = true) : ∀ w ∈ L, w.before args s = true := by
  intro w hw
  by_cases e1 : w = .isRef (.static Bundle.tN "UNASSIGNED_STACK" Bundle.steD)
  · rw [e1]; exact hU
  · by_cases e2 : w = .isRef (.static Bundle.tN "SUPPRESSED_SENTINEL" Bundle.listD)
    · rw [e2]; exact hN
    · by_cases e3 : w = .laysStatic Bundle.tN "UNASSIGNED_STACK" Bundle.steD
      · rw [e3]; exact lU
      · by_cases e4 : w = .laysStatic Bundle.tN "SUPPRESSED_SENTINEL" Bundle.listD
        · rw [e4]; exact lN
        · exact h1 w (List.mem_filter.mpr ⟨hw, by unfold vx_no; rw [decide_eq_true e1, decide_eq_true e2, decide_eq_true e3, decide_eq_true e4]; rfl⟩)
/-- where a static field lies, its class's statics cell in H -/
def vx_L (C n d : String) (A : Nat → Prop) (U : State) (H : Heap) : Prop := ∃ (c : ClassId) (k : Class) (i : Nat) (f : Field) (a : Nat) (cell : Cell), U.vm.findClass C = some c ∧ U.fieldFound? C n d = some (c, k, i, f) ∧ f.isStatic = true ∧ k.statics = some a ∧ H[a]? = some cell ∧ cell.vm.isStatics = true ∧ cell.cls = c ∧ f.slot < cell.slots.size ∧ k.staticTypes[f.slot]? = some f.type ∧ ¬ A a
theorem vx_L.moved {C n d : String} {A : Nat → Prop} {u U : State} {H : Heap} (hvm : u.vm.Alike U.vm) (h : vx_L C n d A u H) : vx_L C n d A U H := by
  obtain ⟨c, k, i, f, a, cell, h1, h2, h3, h4, h5, h6, h7, h8, h9, h10⟩ := h
  obtain ⟨k', hi', he⟩ := State.fieldFound?_setVm hvm h2
  exact ⟨c, k', i, f, a, cell, by rw [hvm.findClass]; exact h1, hi', h3, by rw [he]; exact h4, h5, h6, h7, h8, by rw [he]; exact h9, h10⟩
theorem vx_L.kept {C n d : String} {A : Nat → Prop} {U : State} {H H1 : Heap} (h : vx_L C n d A U H) (hq : ∀ a : Nat, a < H.size → ¬ A a → H1[a]? = H[a]?) : vx_L C n d A U H1 := by
  obtain ⟨c, k, i, f, a, cell, h1, h2, h3, h4, h5, h6, h7, h8, h9, h10⟩ := h
  exact ⟨c, k, i, f, a, cell, h1, h2, h3, h4, by rw [hq a (Array.getElem?_eq_some_iff.mp h5).1 h10]; exact h5, h6, h7, h8, h9, h10⟩
theorem vx_L.narrow {C n d : String} {A B : Nat → Prop} {U : State} {H : Heap} (h : vx_L C n d A U H) (hAB : ∀ q, B q → A q) : vx_L C n d B U H := by
  obtain ⟨c, k, i, f, a, cell, h1, h2, h3, h4, h5, h6, h7, h8, h9, h10⟩ := h
  exact ⟨c, k, i, f, a, cell, h1, h2, h3, h4, h5, h6, h7, h8, h9, fun z => h10 (hAB _ z)⟩
theorem vx_L.word {C n d : String} {A : Nat → Prop} {s : State} {args : Array Value} (h : vx_L C n d A s s.heap) : (Cond.laysStatic C n d).before args s = true := by
  obtain ⟨c, k, i, f, a, cell, h1, h2, h3, h4, h5, h6, h7, h8, h9, -⟩ := h
  show (Cond.laysStatic C n d).holds args s none s [] = true
  exact Cond.laysStatic_of h1 h2 h3 h4 h5 h6 h7 h8 h9
/-- .. and what it holds: null or some reference -/
def vx_Zq (C n d : String) (A : Nat → Prop) (U : State) (H : Heap) : Prop := va_Zq C n d A U H ∧ vx_L C n d A U H
theorem vx_Zq.moved {C n d : String} {A : Nat → Prop} {u U : State} {H : Heap} (hvm : u.vm.Alike U.vm) (h : vx_Zq C n d A u H) : vx_Zq C n d A U H := ⟨va_Zq.moved hvm h.1, vx_L.moved hvm h.2⟩
theorem vx_Zq.kept {C n d : String} {A : Nat → Prop} {U : State} {H H1 : Heap} (h : vx_Zq C n d A U H) (hq : ∀ a : Nat, a < H.size → ¬ A a → H1[a]? = H[a]?) : vx_Zq C n d A U H1 := ⟨va_Zq.kept h.1 hq, vx_L.kept h.2 hq⟩
theorem vx_Zq.narrow {C n d : String} {A B : Nat → Prop} {U : State} {H : Heap} (h : vx_Zq C n d A U H) (hAB : ∀ q, B q → A q) : vx_Zq C n d B U H := ⟨va_Zq.narrow h.1 hAB, vx_L.narrow h.2 hAB⟩
theorem vx_Zqof {args : Array Value} {s : State} {C n d : String} {A : Nat → Prop} (hl : (Cond.laysStatic C n d).before args s = true) (hini : (Cond.initialized C).before args s = true) (h : (Cond.isRef (.static C n d)).before args s = true) (hA : ∀ a : Nat, a < s.heap.size → ¬ A a) : vx_Zq C n d A s s.heap := by
  refine ⟨va_Zqof hl hini h hA, ?_⟩
  obtain ⟨c, k, i, f, a, cell, h1, h2, h3, h4, h5, h6, h7, h8, h9⟩ := Cond.laysStatic_spec hl
  exact ⟨c, k, i, f, a, cell, h1, h2, h3, h4, h5, h6, h7, h8, h9, hA a (Array.getElem?_eq_some_iff.mp h5).1⟩
theorem vx_isRef {C n d : String} {v : Value} {A : Nat → Prop} {s : State} {args : Array Value} (h : va_Z C n d v A s s.heap) (hv : v.isRef = true) : (Cond.isRef (.static C n d)).before args s = true := by
  obtain ⟨cf, kf, fi, f, a, cell, h1, h2, h3, h4, h5, h6, h7, -⟩ := h
  have he : (Term.static C n d).eval args s none [] s = some v := by
    simp [Term.eval, State.fieldNamed?, h1, h2, h4, h5, h6, h7]
  simp only [Cond.before, Cond.holds, Cond.value, he]
  cases v <;> simp_all [Value.isRef]
theorem vx_isRefq {C n d : String} {A : Nat → Prop} {s : State} {args : Array Value} (h : va_Zq C n d A s s.heap) : (Cond.isRef (.static C n d)).before args s = true := by
  rcases h with h | ⟨t, h⟩
  · exact vx_isRef h rfl
  · exact vx_isRef h rfl
/-- the same frame, seen from here: as if the method were called anew in this heap -/
theorem vx_rebase {T : State} (X : Stand p l e R s m args below meth c T locs cells slots) {R' : Room} (hf : R'.frames ≤ R.frames) (hl : R'.locals ≤ R.locals) (hc : cells + R'.cells ≤ R.cells) (hs : slots + R'.slots ≤ R.slots) :
    Stand p l e R' ((T.setVm s.vm).setFrames (.invoking m args :: below)) m args below meth c T [] 0 0 := by
  have htop : (T.setVm s.vm).topJava?.isSome := X.here.top
  have hF : ((T.setVm s.vm).setFrames (.invoking m args :: below)).frames = .invoking m args :: below := State.frames_setFrames _ (State.cur_lt_of_top htop)
  obtain ⟨g₀, hg0⟩ := Option.isSome_iff_exists.mp htop
  obtain ⟨r, hr⟩ := State.topJava?_eq_some.mp hg0
  have hl9 : e.platform.stackLimits (T.setVm s.vm).me = e.platform.stackLimits s.me := X.limits
  have hb9 : (T.setVm s.vm).me.stackBytes = s.me.stackBytes := X.bytes
  refine ⟨X.admits, X.cas, X.clock, hF, ?_, X.hears, X.method, X.code, X.here, X.tail, X.warmed, ?_, ?_, ?_⟩
  · have h := X.room
    have hU : ((T.setVm s.vm).setFrames (.invoking m args :: below)).localsInUse = s.localsInUse := by
      rw [State.localsInUse_invoking hF (meth := meth) (c := c) X.method X.code, State.localsInUse_invoking X.frames X.method X.code]
    simp only [State.hasRoom, Bool.and_eq_true, decide_eq_true_eq] at h ⊢
    obtain ⟨⟨⟨⟨h1, h2, h3, h4, h5, h6⟩, h7⟩, h8⟩, h9⟩ := h
    rw [X.frames, List.length_cons] at h2 h3
    have q1 := X.heapSize
    have q2 := X.used
    simp only [hF, hU, List.length_cons, State.stackLimits_setFrames, State.stackBytes_setFrames, hl9, hb9]
    refine ⟨⟨⟨⟨by omega, by omega, by omega, by omega, by omega, h6⟩, ?_⟩, ?_⟩, X.book⟩
    · show T.heap.size + R'.cells ≤ e.platform.maxCells
      omega
    · show T.slotsUsed + R'.slots ≤ e.platform.maxSlots
      omega
  · rw [State.stackLimits_setFrames]; rfl
  · rw [State.stackBytes_setFrames]; rfl
  · refine ⟨?_, Nat.le_refl _, Nat.le_refl _, ?_, ?_, fun a c9 h9 => ⟨c9, h9, rfl, rfl, fun _ _ => rfl⟩⟩
    · obtain ⟨t, ht, -⟩ := State.frames_cons hr
      show T.setVm s.vm = { ((T.setVm s.vm).setFrames (.invoking m args :: below)).setFrames (T.setVm s.vm).frames with heap := T.heap, slotsUsed := T.slotsUsed }
      rw [State.setFrames_setFrames, State.setFrames_self ht]
      rfl
    · show T.slotsUsed = T.slotsUsed + ((T.heap.toList.drop T.heap.size).map (·.slots.size)).sum
      rw [List.drop_eq_nil_of_le (Nat.le_of_eq Array.length_toList)]
      rfl
    · show ((T.heap.toList.drop T.heap.size).map (·.slots.size)).sum ≤ 0
      rw [List.drop_eq_nil_of_le (Nat.le_of_eq Array.length_toList)]
      exact Nat.le_refl _
/-- 'throw new E()': new; dup; invokespecial; athrow -/
theorem vx_throw0 {cc : ByteArray} {pc : Nat} (hexec : p.tables.exec = Jvm.exec) (hb : c.code = cc) (hl : l.stackTraces = false) {own cls : String} {names : List String} {ik ic mc ms : Nat} {A : Nat → Prop}
    (hown : s.vm.findClass own = some m.cls) (hcls : Bundle.fit cls = true) (hnames : ∀ n ∈ names, Bundle.fit n = true)
    (hk : (Cond.classLink own ik cls).before args s = true) (hini : (Cond.initialized cls).before args s = true) (hat : ∀ w ∈ vx_at0 own ic cls names, w.before args s = true)
    (hgood : ∀ w ∈ Cond.classLink own ik cls :: Cond.initialized cls :: vx_at0 own ic cls names, vx_ot w = true)
    (hU : vx_Zq Bundle.tN "UNASSIGNED_STACK" Bundle.steD A s s.heap) (hN : vx_Zq Bundle.tN "SUPPRESSED_SENTINEL" Bundle.listD A s s.heap) (hS : va_S A s.heap H locs) (hsize : ls.size = c.maxLocals)
    (d0 : decode cc pc = .ok (.new ik, 3)) (d3 : decode cc (pc + 3) = .ok (.dup, 1)) (d4 : decode cc (pc + 4) = .ok (.invokespecial ic, 3)) (d7 : decode cc (pc + 7) = .ok (.athrow, 1))
    (hout : ∀ x ∈ c.exceptionTable.toList, covers x (pc + 7) = false)
    (hRframes : names.length + 3 < R.frames) (hRlocals : (rest.map fun v => v.category).sum + (13 * (names.length + 1) + 42) ≤ R.locals) (hRcells : cells + 1 ≤ R.cells) (hRslots : slots + 6 ≤ R.slots) (hlocks : meth.locks = false)
    (hx : ∀ t : State, s.vm.Alike t.vm → H.size ≤ t.heap.size → (∀ q : Nat, q < H.size → t.heap[q]? = H[q]?) → XC cls s t)
    (hf : ∀ z ∈ locs, free z.base) (hc : cells + 1 ≤ mc) (hs : slots + 6 ≤ ms) :
    W p l e R s m args below meth c H locs cells slots (vx_MQ below Qc XC args s mc ms free) (F0 m pc ls rest) := by
  intro T hT X
  have htr : e.platform.stackTraces = false := (show e.platform.stackTraces = l.stackTraces by rw [X.admits.platform]).trans hl
  have Y := vx_rebase X (R' := { frames := R.frames, locals := R.locals, cells := 1, slots := 6 }) (Nat.le_refl _) (Nat.le_refl _) hRcells hRslots
  obtain ⟨s', hA⟩ : ∃ z, z = (T.setVm s.vm).setFrames (.invoking m args :: below) := ⟨_, rfl⟩
  rw [← hA] at Y
  have hvm : s'.vm = s.vm := by rw [hA]; rfl
  have hhp : s'.heap = H := by rw [hA]; exact hT
  have hW0 : s.WarmedH s'.vm := by rw [hvm]; exact State.WarmedH.refl s
  have hat' : ∀ w ∈ vx_at0 own ic cls names, w.before args s' = true := fun w hw => vx_ot_at hW0 hvm.symm (hgood w (List.mem_cons_of_mem _ (List.mem_cons_of_mem _ hw))) (hat w hw)
  have hk' : (Cond.classLink own ik cls).before args s' = true := vx_ot_at hW0 hvm.symm (hgood _ List.mem_cons_self) hk
  have hini' : (Cond.initialized cls).before args s' = true := vx_ot_at hW0 hvm.symm (hgood _ (List.mem_cons_of_mem _ List.mem_cons_self)) hini
  have hU' : vx_Zq Bundle.tN "UNASSIGNED_STACK" Bundle.steD A s' s'.heap := by rw [hhp]; exact vx_Zq.moved hW0.alike (hU.kept hS.2.1)
  have hN' : vx_Zq Bundle.tN "SUPPRESSED_SENTINEL" Bundle.listD A s' s'.heap := by rw [hhp]; exact vx_Zq.moved hW0.alike (hN.kept hS.2.1)
  have h : ∀ w ∈ Bundle.ownAtoms0 own ic cls names, w.before args s' = true := vx_own hat' (vx_isRefq hU'.1) (vx_isRefq hN'.1) hU'.2.word hN'.2.word
  have hown' : s'.vm.findClass own = some m.cls := by rw [hvm]; exact hown
  have hins : (Cond.instantiable cls 6).before args s' = true := h _ (by simp [Bundle.ownAtoms0])
  obtain ⟨vm₁, cX, kX, hfX, hkX, -, -, X₁, st1⟩ := Y.newCold hexec (own := own) (C := cls) (index := ik) (n := 6) hown' hk' hins hini'
    (g := F0 m pc ls rest) rfl (by rw [hb]; exact d0) (Nat.le_refl _) (Nat.le_refl _)
  generalize hT1 : (T.setVm vm₁).pushCell { cls := cX, slots := kX.instanceTypes.map defaultValue, vm := .none } = T1 at X₁ st1
  have hcat : (Value.ref T.heap.size).category = 1 := rfl
  have hcellA : T1.heap[T.heap.size]? = some (freshCell cX kX) := by rw [← hT1]; exact State.heap_pushCell_size _ _
  have d3' : decode c.code (pc + 3) = .ok (.dup, 1) := by rw [hb]; exact d3
  obtain ⟨U, hsteps, hrun, hend, hW, hsame, ce, hce, hO⟩ := X₁.ctorThrow0 hexec htr (own := own) (cls := cls) (names := names) (ic := ic) hown' hcls hnames h (fun x hx => nomatch hx) hfX hkX hcellA (by rw [hhp, hT]; exact Nat.le_refl _)
    (g := { method := m, pc := pc + 4, locals := ls, stack := .ref T.heap.size :: .ref T.heap.size :: rest, locked := none }) rfl hsize rfl rfl (rest := rest) rfl
    (by rw [hb]; exact d4) (by rw [hb]; exact d7) hout hRframes (by simp only [List.map_cons, List.sum_cons, hcat]; omega) hlocks
  obtain ⟨f1, f2⟩ := vx_frame hsame
  rw [hhp] at f1 f2
  have hWs : s.WarmedH U.vm := State.WarmedH.trans hW0 hW
  have hcl : s.vm.findClass cls = some ce.cls := by
    have h9 := hO.cls
    rw [hvm] at h9
    exact h9
  have hall : s.sameButNew ({ U with vm := s.vm } : State) locs mc ms := by
    subst hA
    obtain ⟨e1, e2⟩ := hsame
    rw [State.setFrames_setFrames] at e1
    have h2 : (T.setVm s.vm).sameButNew ({ U with vm := s.vm } : State) [] (0 + 1) (0 + 6) := ⟨e1, e2⟩
    have h3 := X.same.trans h2
    rw [List.append_nil] at h3
    exact h3.mono hc hs
  refine ⟨U, ?_, .threw T.heap.size, hrun, hend, Or.inr ⟨T.heap.size, rfl, cls, ce, locs, hx U hWs.alike f1 (fun q hq => f2 q hq (fun z hz => nomatch hz)), hce, hO.vm, hcl, hWs, hall, hf⟩⟩
  refine st1 _ ?_
  show Steps p.tables e below (T1.setTop { method := m, pc := pc + 3, locals := ls, stack := .ref T.heap.size :: rest, locked := none }) _
  jvm_step X₁.here [X₁.here.top, hexec, d3', Value.category]
  exact hsteps
/-- 'throw new E("text")': new; dup; ldc; invokespecial; athrow -/
theorem vx_throwS {cc : ByteArray} {pc : Nat} (hexec : p.tables.exec = Jvm.exec) (hb : c.code = cc) (hl : l.stackTraces = false) {own cls text : String} {names : List String} {ik is ic mc ms sa : Nat} {A : Nat → Prop}
    (hown : s.vm.findClass own = some m.cls) (hcls : Bundle.fit cls = true) (hnames : ∀ n ∈ names, Bundle.fit n = true)
    (hk : (Cond.classLink own ik cls).before args s = true) (hini : (Cond.initialized cls).before args s = true) (hstr : vk_R own is text sa s) (hat : ∀ w ∈ vx_atS own ic cls names, w.before args s = true)
    (hgood : ∀ w ∈ Cond.classLink own ik cls :: Cond.initialized cls :: vx_atS own ic cls names, vx_ot w = true)
    (hU : vx_Zq Bundle.tN "UNASSIGNED_STACK" Bundle.steD A s s.heap) (hN : vx_Zq Bundle.tN "SUPPRESSED_SENTINEL" Bundle.listD A s s.heap) (hS : va_S A s.heap H locs) (hsize : ls.size = c.maxLocals)
    (d0 : decode cc pc = .ok (.new ik, 3)) (d3 : decode cc (pc + 3) = .ok (.dup, 1)) (d4 : decode cc (pc + 4) = .ok (.ldc is, 2)) (d6 : decode cc (pc + 6) = .ok (.invokespecial ic, 3)) (d9 : decode cc (pc + 9) = .ok (.athrow, 1))
    (hout : ∀ x ∈ c.exceptionTable.toList, covers x (pc + 9) = false)
    (hRframes : names.length + 3 < R.frames) (hRlocals : (rest.map fun v => v.category).sum + (13 * (names.length + 1) + 43) ≤ R.locals) (hRcells : cells + 1 ≤ R.cells) (hRslots : slots + 6 ≤ R.slots) (hlocks : meth.locks = false)
    (hx : ∀ t : State, s.vm.Alike t.vm → H.size ≤ t.heap.size → (∀ q : Nat, q < H.size → t.heap[q]? = H[q]?) → XC cls s t)
    (hf : ∀ z ∈ locs, free z.base) (hc : cells + 1 ≤ mc) (hs : slots + 6 ≤ ms) :
    W p l e R s m args below meth c H locs cells slots (vx_MQ below Qc XC args s mc ms free) (F0 m pc ls rest) := by
  intro T hT X
  have htr : e.platform.stackTraces = false := (show e.platform.stackTraces = l.stackTraces by rw [X.admits.platform]).trans hl
  have Y := vx_rebase X (R' := { frames := R.frames, locals := R.locals, cells := 1, slots := 6 }) (Nat.le_refl _) (Nat.le_refl _) hRcells hRslots
  obtain ⟨s', hA⟩ : ∃ z, z = (T.setVm s.vm).setFrames (.invoking m args :: below) := ⟨_, rfl⟩
  rw [← hA] at Y
  have hvm : s'.vm = s.vm := by rw [hA]; rfl
  have hhp : s'.heap = H := by rw [hA]; exact hT
  have hW0 : s.WarmedH s'.vm := by rw [hvm]; exact State.WarmedH.refl s
  have hat' : ∀ w ∈ vx_atS own ic cls names, w.before args s' = true := fun w hw => vx_ot_at hW0 hvm.symm (hgood w (List.mem_cons_of_mem _ (List.mem_cons_of_mem _ hw))) (hat w hw)
  have hk' : (Cond.classLink own ik cls).before args s' = true := vx_ot_at hW0 hvm.symm (hgood _ List.mem_cons_self) hk
  have hini' : (Cond.initialized cls).before args s' = true := vx_ot_at hW0 hvm.symm (hgood _ (List.mem_cons_of_mem _ List.mem_cons_self)) hini
  have hU' : vx_Zq Bundle.tN "UNASSIGNED_STACK" Bundle.steD A s' s'.heap := by rw [hhp]; exact vx_Zq.moved hW0.alike (hU.kept hS.2.1)
  have hN' : vx_Zq Bundle.tN "SUPPRESSED_SENTINEL" Bundle.listD A s' s'.heap := by rw [hhp]; exact vx_Zq.moved hW0.alike (hN.kept hS.2.1)
  have h : ∀ w ∈ Bundle.ownAtoms own ic cls names, w.before args s' = true := vx_own hat' (vx_isRefq hU'.1) (vx_isRefq hN'.1) hU'.2.word hN'.2.word
  have hown' : s'.vm.findClass own = some m.cls := by rw [hvm]; exact hown
  have hins : (Cond.instantiable cls 6).before args s' = true := h _ (by simp [Bundle.ownAtoms])
  obtain ⟨vm₁, cX, kX, hfX, hkX, -, -, X₁, st1⟩ := Y.newCold hexec (own := own) (C := cls) (index := ik) (n := 6) hown' hk' hins hini'
    (g := F0 m pc ls rest) rfl (by rw [hb]; exact d0) (Nat.le_refl _) (Nat.le_refl _)
  generalize hT1 : (T.setVm vm₁).pushCell { cls := cX, slots := kX.instanceTypes.map defaultValue, vm := .none } = T1 at X₁ st1
  have hcat : (Value.ref T.heap.size).category = 1 := rfl
  have hcellA : T1.heap[T.heap.size]? = some (freshCell cX kX) := by rw [← hT1]; exact State.heap_pushCell_size _ _
  have d3' : decode c.code (pc + 3) = .ok (.dup, 1) := by rw [hb]; exact d3
  have d4' : decode c.code (pc + 4) = .ok (.ldc is, 2) := by rw [hb]; exact d4
  have hstr' : vk_R own is text sa s' := vk_R.warm hW0 hstr
  obtain ⟨U, hsteps, hrun, hend, hW, hsame, ce, hce, hO⟩ := X₁.ctorThrowS hexec htr (own := own) (cls := cls) (names := names) (ic := ic) hown' hcls hnames h (fun x hx => nomatch hx) hfX hkX hcellA (by rw [hhp, hT]; exact Nat.le_refl _) (msg := .ref sa) rfl
    (g := { method := m, pc := pc + 6, locals := ls, stack := .ref sa :: .ref T.heap.size :: .ref T.heap.size :: rest, locked := none }) rfl hsize rfl rfl (rest := rest) rfl
    (by rw [hb]; exact d6) (by rw [hb]; exact d9) hout hRframes (by simp only [List.map_cons, List.sum_cons, hcat]; omega) hlocks
  obtain ⟨f1, f2⟩ := vx_frame hsame
  rw [hhp] at f1 f2
  have hWs : s.WarmedH U.vm := State.WarmedH.trans hW0 hW
  have hcl : s.vm.findClass cls = some ce.cls := by
    have h9 := hO.cls
    rw [hvm] at h9
    exact h9
  have hall : s.sameButNew ({ U with vm := s.vm } : State) locs mc ms := by
    subst hA
    obtain ⟨e1, e2⟩ := hsame
    rw [State.setFrames_setFrames] at e1
    have h2 : (T.setVm s.vm).sameButNew ({ U with vm := s.vm } : State) [] (0 + 1) (0 + 6) := ⟨e1, e2⟩
    have h3 := X.same.trans h2
    rw [List.append_nil] at h3
    exact h3.mono hc hs
  refine ⟨U, ?_, .threw T.heap.size, hrun, hend, Or.inr ⟨T.heap.size, rfl, cls, ce, locs, hx U hWs.alike f1 (fun q hq => f2 q hq (fun z hz => nomatch hz)), hce, hO.vm, hcl, hWs, hall, hf⟩⟩
  refine st1 _ ?_
  show Steps p.tables e below (T1.setTop { method := m, pc := pc + 3, locals := ls, stack := .ref T.heap.size :: rest, locked := none }) _
  jvm_step X₁.here [X₁.here.top, hexec, d3', Value.category]
  exact X₁.ldcString hexec (own := own) (text := text) (index := is) (a := sa) hown' hstr'.1 hstr'.2
    (g := { method := m, pc := pc + 4, locals := ls, stack := .ref T.heap.size :: .ref T.heap.size :: rest, locked := none }) rfl d4' _ hsteps
/-- 'throw new E("text")', the text by a wide index -/
theorem vx_throwSW {cc : ByteArray} {pc : Nat} (hexec : p.tables.exec = Jvm.exec) (hb : c.code = cc) (hl : l.stackTraces = false) {own cls text : String} {names : List String} {ik is ic mc ms sa : Nat} {A : Nat → Prop}
    (hown : s.vm.findClass own = some m.cls) (hcls : Bundle.fit cls = true) (hnames : ∀ n ∈ names, Bundle.fit n = true)
    (hk : (Cond.classLink own ik cls).before args s = true) (hini : (Cond.initialized cls).before args s = true) (hstr : vk_R own is text sa s) (hat : ∀ w ∈ vx_atS own ic cls names, w.before args s = true)
    (hgood : ∀ w ∈ Cond.classLink own ik cls :: Cond.initialized cls :: vx_atS own ic cls names, vx_ot w = true)
    (hU : vx_Zq Bundle.tN "UNASSIGNED_STACK" Bundle.steD A s s.heap) (hN : vx_Zq Bundle.tN "SUPPRESSED_SENTINEL" Bundle.listD A s s.heap) (hS : va_S A s.heap H locs) (hsize : ls.size = c.maxLocals)
    (d0 : decode cc pc = .ok (.new ik, 3)) (d3 : decode cc (pc + 3) = .ok (.dup, 1)) (d4 : decode cc (pc + 4) = .ok (.ldc_w is, 3)) (d7 : decode cc (pc + 7) = .ok (.invokespecial ic, 3)) (d10 : decode cc (pc + 10) = .ok (.athrow, 1))
    (hout : ∀ x ∈ c.exceptionTable.toList, covers x (pc + 10) = false)
    (hRframes : names.length + 3 < R.frames) (hRlocals : (rest.map fun v => v.category).sum + (13 * (names.length + 1) + 43) ≤ R.locals) (hRcells : cells + 1 ≤ R.cells) (hRslots : slots + 6 ≤ R.slots) (hlocks : meth.locks = false)
    (hx : ∀ t : State, s.vm.Alike t.vm → H.size ≤ t.heap.size → (∀ q : Nat, q < H.size → t.heap[q]? = H[q]?) → XC cls s t)
    (hf : ∀ z ∈ locs, free z.base) (hc : cells + 1 ≤ mc) (hs : slots + 6 ≤ ms) :
    W p l e R s m args below meth c H locs cells slots (vx_MQ below Qc XC args s mc ms free) (F0 m pc ls rest) := by
  intro T hT X
  have htr : e.platform.stackTraces = false := (show e.platform.stackTraces = l.stackTraces by rw [X.admits.platform]).trans hl
  have Y := vx_rebase X (R' := { frames := R.frames, locals := R.locals, cells := 1, slots := 6 }) (Nat.le_refl _) (Nat.le_refl _) hRcells hRslots
  obtain ⟨s', hA⟩ : ∃ z, z = (T.setVm s.vm).setFrames (.invoking m args :: below) := ⟨_, rfl⟩
  rw [← hA] at Y
  have hvm : s'.vm = s.vm := by rw [hA]; rfl
  have hhp : s'.heap = H := by rw [hA]; exact hT
  have hW0 : s.WarmedH s'.vm := by rw [hvm]; exact State.WarmedH.refl s
  have hat' : ∀ w ∈ vx_atS own ic cls names, w.before args s' = true := fun w hw => vx_ot_at hW0 hvm.symm (hgood w (List.mem_cons_of_mem _ (List.mem_cons_of_mem _ hw))) (hat w hw)
  have hk' : (Cond.classLink own ik cls).before args s' = true := vx_ot_at hW0 hvm.symm (hgood _ List.mem_cons_self) hk
  have hini' : (Cond.initialized cls).before args s' = true := vx_ot_at hW0 hvm.symm (hgood _ (List.mem_cons_of_mem _ List.mem_cons_self)) hini
  have hU' : vx_Zq Bundle.tN "UNASSIGNED_STACK" Bundle.steD A s' s'.heap := by rw [hhp]; exact vx_Zq.moved hW0.alike (hU.kept hS.2.1)
  have hN' : vx_Zq Bundle.tN "SUPPRESSED_SENTINEL" Bundle.listD A s' s'.heap := by rw [hhp]; exact vx_Zq.moved hW0.alike (hN.kept hS.2.1)
  have h : ∀ w ∈ Bundle.ownAtoms own ic cls names, w.before args s' = true := vx_own hat' (vx_isRefq hU'.1) (vx_isRefq hN'.1) hU'.2.word hN'.2.word
  have hown' : s'.vm.findClass own = some m.cls := by rw [hvm]; exact hown
  have hins : (Cond.instantiable cls 6).before args s' = true := h _ (by simp [Bundle.ownAtoms])
  obtain ⟨vm₁, cX, kX, hfX, hkX, -, -, X₁, st1⟩ := Y.newCold hexec (own := own) (C := cls) (index := ik) (n := 6) hown' hk' hins hini'
    (g := F0 m pc ls rest) rfl (by rw [hb]; exact d0) (Nat.le_refl _) (Nat.le_refl _)
  generalize hT1 : (T.setVm vm₁).pushCell { cls := cX, slots := kX.instanceTypes.map defaultValue, vm := .none } = T1 at X₁ st1
  have hcat : (Value.ref T.heap.size).category = 1 := rfl
  have hcellA : T1.heap[T.heap.size]? = some (freshCell cX kX) := by rw [← hT1]; exact State.heap_pushCell_size _ _
  have d3' : decode c.code (pc + 3) = .ok (.dup, 1) := by rw [hb]; exact d3
  have d4' : decode c.code (pc + 4) = .ok (.ldc_w is, 3) := by rw [hb]; exact d4
  have hstr' : vk_R own is text sa s' := vk_R.warm hW0 hstr
  obtain ⟨U, hsteps, hrun, hend, hW, hsame, ce, hce, hO⟩ := X₁.ctorThrowS hexec htr (own := own) (cls := cls) (names := names) (ic := ic) hown' hcls hnames h (fun x hx => nomatch hx) hfX hkX hcellA (by rw [hhp, hT]; exact Nat.le_refl _) (msg := .ref sa) rfl
    (g := { method := m, pc := pc + 7, locals := ls, stack := .ref sa :: .ref T.heap.size :: .ref T.heap.size :: rest, locked := none }) rfl hsize rfl rfl (rest := rest) rfl
    (by rw [hb]; exact d7) (by rw [hb]; exact d10) hout hRframes (by simp only [List.map_cons, List.sum_cons, hcat]; omega) hlocks
  obtain ⟨f1, f2⟩ := vx_frame hsame
  rw [hhp] at f1 f2
  have hWs : s.WarmedH U.vm := State.WarmedH.trans hW0 hW
  have hcl : s.vm.findClass cls = some ce.cls := by
    have h9 := hO.cls
    rw [hvm] at h9
    exact h9
  have hall : s.sameButNew ({ U with vm := s.vm } : State) locs mc ms := by
    subst hA
    obtain ⟨e1, e2⟩ := hsame
    rw [State.setFrames_setFrames] at e1
    have h2 : (T.setVm s.vm).sameButNew ({ U with vm := s.vm } : State) [] (0 + 1) (0 + 6) := ⟨e1, e2⟩
    have h3 := X.same.trans h2
    rw [List.append_nil] at h3
    exact h3.mono hc hs
  refine ⟨U, ?_, .threw T.heap.size, hrun, hend, Or.inr ⟨T.heap.size, rfl, cls, ce, locs, hx U hWs.alike f1 (fun q hq => f2 q hq (fun z hz => nomatch hz)), hce, hO.vm, hcl, hWs, hall, hf⟩⟩
  refine st1 _ ?_
  show Steps p.tables e below (T1.setTop { method := m, pc := pc + 3, locals := ls, stack := .ref T.heap.size :: rest, locked := none }) _
  jvm_step X₁.here [X₁.here.top, hexec, d3', Value.category]
  exact X₁.ldcStringW hexec (own := own) (text := text) (index := is) (a := sa) hown' hstr'.1 hstr'.2
    (g := { method := m, pc := pc + 4, locals := ls, stack := .ref T.heap.size :: .ref T.heap.size :: rest, locked := none }) rfl d4' _ hsteps
end Ends
section Bodies
variable {l : Launch}
theorem vx_ofW {y : MethodName} {ws ws' : List Cond} {rm : Room} {Pc : Array Value → State → Prop} {Qc : Array Value → State → Outcome → State → Prop} {XC : String → State → State → Prop} {mc ms : Nat} {free : Addr → Prop} {cc : ByteArray} {maxL : Nat} {ret : Option FieldType}
    (hy : plainName y.cls = true) (hw : ws = Cond.code y cc maxL ret :: ws')
    (body : ∀ p e s m args below meth c s₁, BodyLoose p l y (headSpec ws rm) cc maxL ret e s m args below meth c s₁ → c.maxLocals = maxL → (∀ x ∈ c.exceptionTable.toList, False) → Pc args s →
      W p l e (headSpec ws rm).room s m args below meth c s.heap [] 0 0 (vx_MQ below Qc XC args s mc ms free) (entryFrame m args maxL)) : vx_Met l y ws rm Pc Qc XC mc ms free := by
  refine MetFree.of_bodyS (code := cc) (maxLocals := maxL) (ret := ret) hy ?_ ?_
  · intro args s m h hn
    obtain ⟨meth, c, h1, h2, h3, h4, h5, h6, -, -⟩ := Cond.code_spec hn (atoms_spec (ws := ws) h _ (by rw [hw]; exact List.mem_cons_self))
    exact ⟨meth, c, h1, h2, h3, h4, h5, h6⟩
  · intro p e s m args below meth c s₁ B hml hP _
    have hh0 : s₁.heap = s.heap := by rw [B.state]; rfl
    have ht : ∀ x ∈ c.exceptionTable.toList, False := by
      obtain ⟨meth9, c9, h1, h2, -, -, -, -, h7, -⟩ := Cond.code_spec B.named (atoms_spec (ws := ws) B.pre _ (by rw [hw]; exact List.mem_cons_self))
      cases Option.some.inj (h1.symm.trans B.method)
      cases Option.some.inj (h2.symm.trans (Stand.of_body B).code)
      intro x hx
      rw [Array.isEmpty_iff.mp h7] at hx
      cases hx
    obtain ⟨t, a1, o, b1, b2, b3⟩ := body p e s m args below meth c s₁ B hml ht hP s₁ hh0 (Stand.of_body B)
    exact ⟨t, o, a1, b1, b2, b3⟩
/-- the table of a body with handlers -/
theorem vx_table {p : Program} {x y : MethodName} {S : Spec} {cc bytes : ByteArray} {maxL maxL' : Nat} {ret ret' : Option FieldType} {e : Env} {s s₁ : State} {m : MethodId} {args : Array Value} {below : List Frame} {meth : Method} {c : Code} {hh : List (Nat × Nat × Nat × Nat)}
    (B : BodyLoose p l y S cc maxL ret e s m args below meth c s₁) (h : (Cond.codeWith y bytes maxL' ret' hh).before args s = true) : c.exceptionTable.toList = tableOf hh := by
  obtain ⟨m9, meth9, c9, hn9, h1, h2, -, -, h6, -⟩ := Cond.codeWith_spec h
  cases Option.some.inj (hn9.symm.trans B.named)
  cases Option.some.inj (h1.symm.trans B.method)
  cases Option.some.inj (h2.symm.trans (Stand.of_body B).code)
  rw [← h6, table_eq]
end Bodies
end VXA
/-! ===== END ===== -/
/-! ===== BEGIN a static call of a method with an exception table ===== -/
section VXS
variable {p : Program} {l : Launch} {e : Env} {R : Room} {s : State} {m : MethodId} {args : Array Value} {below : List Frame} {meth : Method} {c : Code} {T : State} {H : Heap} {locs : List Loc} {cells slots : Nat}
abbrev vx_CSW (R : Room) (s : State) (args : Array Value) (own : String) (index : Nat) (y : MethodName) (bytes : ByteArray) (maxL : Nat) (ret : Option FieldType) (hh : List (Nat × Nat × Nat × Nat)) (ws : List Cond) (rm : Room) (mc ms n : Nat) : Prop :=
  (rm.cells = mc ∧ rm.slots = ms ∧ rm.frames + 1 ≤ R.frames ∧ 8 + (maxL + 11) + rm.locals ≤ R.locals ∧ (∀ w ∈ ws, ∀ (a' : Array Value) (U : State), s.WarmedH U.vm → w.before a' U = true) ∧ Cond.codeWith y bytes maxL ret hh ∈ ws) ∧
  (Cond.codeWith y bytes maxL ret hh).before args s = true ∧ (Cond.initialized y.cls).before args s = true ∧ (y.cls ≠ "java/lang/invoke/MethodHandle" ∧ y.cls ≠ "java/lang/invoke/VarHandle") ∧
  (∀ sig, parseMethodDescriptor y.desc = some sig → n = sig.parameters.length) ∧ (Cond.methodLink own index y).before args s = true ∧ (Cond.static y).before args s = true
theorem vx_cwSW {own : String} {index maxL mc ms : Nat} {y : MethodName} {bytes : ByteArray} {ret : Option FieldType} {hh : List (Nat × Nat × Nat × Nat)} {Ts ws ws' : List Cond} {rm : Room} (n : Nat) (ht : ∀ w ∈ Ts, w.before args s = true) (hT : GoodIn Ts (va_wsS own index y ws)) (hw : ws = Cond.codeWith y bytes maxL ret hh :: ws') (hrc : rm.cells = mc) (hrs : rm.slots = ms)
    (hd : y.cls ≠ "java/lang/invoke/MethodHandle" ∧ y.cls ≠ "java/lang/invoke/VarHandle" ∧ (parseMethodDescriptor y.desc).map (fun d => d.parameters.length) = some n) (hR : rm.frames + 1 ≤ R.frames ∧ 8 + (maxL + 11) + rm.locals ≤ R.locals) :
    vx_CSW R s args own index y bytes maxL ret hh ws rm mc ms n := by
  have ok : ∀ w ∈ va_wsS own index y ws, w.before args s = true := fun w h => ht w (hT w h).1
  have hG : GoodIn Ts ws := fun w h => hT w (by unfold va_wsS; exact List.mem_append_right _ h)
  have hc : Cond.codeWith y bytes maxL ret hh ∈ ws := by rw [hw]; exact List.mem_cons_self
  refine ⟨⟨hrc, hrs, hR.1, hR.2, pay_in ht hG, hc⟩, ht _ (hG _ hc).1, ok _ (by simp [va_wsS]), ⟨hd.1, hd.2.1⟩, fun sig h => ?_, ok _ (by simp [va_wsS]), ok _ (by simp [va_wsS])⟩
  have h2 := hd.2.2
  rw [h] at h2
  exact (Option.some.inj h2).symm
theorem vx_callSW (X : Stand p l e R s m args below meth c T locs cells slots) (hexec : p.tables.exec = Jvm.exec) {own : String} {index : Nat} {y : MethodName} {bytes : ByteArray} {maxL : Nat} {ret : Option FieldType} {hh : List (Nat × Nat × Nat × Nat)}
    (hown : s.vm.findClass own = some m.cls) (hlink : (Cond.methodLink own index y).before args s = true) (hstat : (Cond.static y).before args s = true) (hinit : (Cond.initialized y.cls).before args s = true)
    (hcode : (Cond.codeWith y bytes maxL ret hh).before args s = true) (hy : y.cls ≠ "java/lang/invoke/MethodHandle" ∧ y.cls ≠ "java/lang/invoke/VarHandle")
    {W9 : Nat} {Pre : Pt → Array Value → Prop} {Post : Pt → Array Value → Option Value → Pt → Prop} (hK : Back l R p e below s args y 3 W9 Pre Post)
    {g : JFrame} (hg : g.method = m) (hsize : g.locals.size = c.maxLocals) {argsL rest : List Value} (hlen : ∀ sig, parseMethodDescriptor y.desc = some sig → argsL.length = sig.parameters.length)
    (hstack : g.stack = argsL.reverse ++ rest) (hW : 2 * g.monitorRoom + (rest.map fun v => v.category).sum ≤ W9) (hdg : decode c.code g.pc = .ok (.invokestatic index, 3))
    (hpre : ∀ vm₁, s.WarmedH vm₁ → Pre ⟨T.setVm vm₁, locs, cells, slots⟩ argsL.toArray) :
    ∃ (v : Option Value) (vm₁ : Vm) (B : Pt), s.WarmedH vm₁ ∧ Stand p l e R s m args below meth c B.U B.locs B.cells B.slots ∧ Post ⟨T.setVm vm₁, locs, cells, slots⟩ argsL.toArray v B ∧
      ∀ target, Steps p.tables e below (B.U.setTop { g with pc := g.pc + 3, stack := v.toList ++ rest }) target → Steps p.tables e below (T.setTop g) target := by
  obtain ⟨mk, methM, cM, hnamed, hmethM, -, -, -, -, -, -, hsigM⟩ := Cond.codeWith_spec hcode
  have hstatic : methM.isStatic = true := Cond.static_spec hnamed hmethM hstat
  obtain ⟨kP, hkP, -⟩ := className_of_methodNamed hnamed
  have hinitP : kP.init = .initialized := Cond.initialized_spec (findClass_of_methodNamed hnamed) hkP hinit
  obtain ⟨vm₁, X₁, hstep₁⟩ := X.invokestatic hexec hown hlink hnamed hmethM hstatic hkP hinitP hy (g := g) hg (argsL := argsL) (rest := rest) (hlen _ hsigM) hstack hdg
  obtain ⟨v, B, X', hpost, hsteps⟩ := hK m meth c ⟨T.setVm vm₁, locs, cells, slots⟩ { g with stack := rest } (.invokestatic index) mk argsL.toArray X₁ hg hsize hdg hW (X₁.named hnamed) (hpre vm₁ X₁.warmed)
  exact ⟨v, vm₁, B, X₁.warmed, X', hpost, fun target h => hstep₁ _ fun acts => by rw [doInvoke_state]; exact hsteps.trans h⟩
theorem vx_runSW {y : MethodName} {bytes cc : ByteArray} {maxL nL mc ms n index : Nat} {ret : Option FieldType} {hh : List (Nat × Nat × Nat × Nat)} {ws : List Cond} {rm : Room} {Pc : Array Value → State → Prop} {Qc : Array Value → State → Outcome → State → Prop} {free : Addr → Prop} {Ts : List Cond} {own : String} {As rest : List Value} {g : JFrame}
    (S : CallFix p m c cc nL s args Ts own) (hM : Met l y ws rm Pc Qc mc ms free) (cw : vx_CSW R s args own index y bytes maxL ret hh ws rm mc ms n) (hp : PreS s H Pc As)
    (hg : g.method = m) (hn : As.length = n) (hsize : g.locals.size = nL) (hstack : g.stack = As.reverse ++ rest) (hW : 2 * g.monitorRoom + (rest.map fun v => v.category).sum ≤ 8) (hdg : decode cc g.pc = .ok (.invokestatic index, 3)) (hf : cells + mc ≤ R.cells ∧ slots + ms ≤ R.slots) :
    va_Run p l e R s m args below meth c H locs cells slots mc ms g rest (Qc As.toArray) (free) := by
  obtain ⟨⟨hrc, hrs, hfr, hlo, hws, hcw⟩, hcode, hini, hy, hlen, hl, hstt⟩ := cw
  have hK : Back l R p e below s args y 3 8 (PreOf R mc ms Pc) (PostOf Qc mc ms free) := va_backW (hh := hh) (bytes := bytes) (maxL := maxL) (ret := ret) hM hp.1 hrc hrs hfr hlo hws hcw (fun a' U hW => word_at hW (Or.inl (by first | rfl | simp [Cond.onTables, Cond.keeps, Cond.steady])) hini)
  obtain ⟨hx, hb, hml, ho, -⟩ := S
  intro T hT X
  obtain ⟨v, vm₁, ⟨U', l2, c2, s2⟩, hW₁, X', ⟨g', mk, t, L, e1, e2, hq, h1, hL, h2, h3⟩, st⟩ := vx_callSW X hx (hh := hh) (bytes := bytes) (maxL := maxL) (ret := ret) ho hl hstt hini hcode hy hK hg (hsize.trans hml.symm) (argsL := As) (rest := rest) (fun sig h => hn.trans (hlen sig h)) hstack hW (by rw [hb]; exact hdg)
    (fun vm₁ hW₁ => ⟨hf.1, hf.2, hp.2 (T.setVm vm₁) hT hW₁⟩)
  dsimp only [Pt.U, Pt.locs, Pt.cells, Pt.slots] at X' e1 e2 h1 h2 h3 st
  subst h1; subst h2; subst h3
  exact ⟨v, (T.setVm vm₁).calling g' mk As.toArray, t, U', L, hT, X', hL, e1, e2, hq, st⟩
end VXS
end
section
/-! names of the classes, their fields, their methods: printed by program -/
def RX0 : String := "WordBench$Law"
def TX0 : u_T := fun k => match k with
  | _ => ("", "", "", false)
def tyX0 : Nat → FieldType := fun k => match k with
  | _ => .int
abbrev wsX00 : List Cond := u_ws RX0 TX0 0
theorem nmX0 : ∀ a, a < 0 → ∀ b, b < 0 → a ≠ b → (TX0 a).2.1 ≠ (TX0 b).2.1 := by decide +kernel
theorem tyX0_ok : ∀ k, k < 0 → parseFieldDescriptor (TX0 k).2.2.1 = some (tyX0 k) := by decide +kernel
abbrev cX0_init : ByteArray := prog_2_method_1_code
def yX0_init : MethodName := ⟨RX0, "<init>", "()V"⟩
def RX1 : String := "WordBench$LetterMap"
def TX1 : u_T := fun k => match k with
  | 0 => ("WordBench$LetterMap", "alphabet", "I", false)
  | 1 => ("WordBench$LetterMap", "sizes", "[I", true)
  | 2 => ("WordBench$LetterMap", "told", "[I", true)
  | _ => ("WordBench$LetterMap", "grownSizes", "[J", true)
def tyX1 : Nat → FieldType := fun k => match k with
  | 0 => .int
  | 1 => .array .int
  | 2 => .array .int
  | _ => .array .long
abbrev wsX10 : List Cond := u_ws RX1 TX1 4
theorem nmX1 : ∀ a, a < 4 → ∀ b, b < 4 → a ≠ b → (TX1 a).2.1 ≠ (TX1 b).2.1 := by decide +kernel
theorem tyX1_ok : ∀ k, k < 4 → parseFieldDescriptor (TX1 k).2.2.1 = some (tyX1 k) := by decide +kernel
abbrev cX1_init : ByteArray := prog_3_method_1_code
def yX1_init : MethodName := ⟨RX1, "<init>", "()V"⟩
abbrev cX1_tell : ByteArray := prog_3_method_2_code
def yX1_tell : MethodName := ⟨RX1, "tell", "(I[II)V"⟩
abbrev cX1_sizeFor : ByteArray := prog_3_method_3_code
def yX1_sizeFor : MethodName := ⟨RX1, "sizeFor", "(I)I"⟩
abbrev cX1_measure : ByteArray := prog_3_method_4_code
def yX1_measure : MethodName := ⟨RX1, "measure", "()V"⟩
abbrev cX1_imageSize : ByteArray := prog_3_method_5_code
def yX1_imageSize : MethodName := ⟨RX1, "imageSize", "(II)J"⟩
abbrev cX1_imageInto : ByteArray := prog_3_method_6_code
def yX1_imageInto : MethodName := ⟨RX1, "imageInto", "([II[I)I"⟩
abbrev cX1_lengthsToLookAt : ByteArray := prog_3_method_7_code
def yX1_lengthsToLookAt : MethodName := ⟨RX1, "lengthsToLookAt", "()I"⟩
abbrev cX1_growsFrom : ByteArray := prog_3_method_8_code
def yX1_growsFrom : MethodName := ⟨RX1, "growsFrom", "(I)Z"⟩
abbrev cX1_letterFarOut : ByteArray := prog_3_method_9_code
def yX1_letterFarOut : MethodName := ⟨RX1, "letterFarOut", "(II)I"⟩
def RX2 : String := "WordBench$NearLaw"
def TX2 : u_T := fun k => match k with
  | _ => ("WordBench$NearLaw", "most", "I", true)
def tyX2 : Nat → FieldType := fun k => match k with
  | _ => .int
abbrev wsX20 : List Cond := u_ws RX2 TX2 1
theorem nmX2 : ∀ a, a < 1 → ∀ b, b < 1 → a ≠ b → (TX2 a).2.1 ≠ (TX2 b).2.1 := by decide +kernel
theorem tyX2_ok : ∀ k, k < 1 → parseFieldDescriptor (TX2 k).2.2.1 = some (tyX2 k) := by decide +kernel
abbrev cX2_init : ByteArray := prog_4_method_1_code
def yX2_init : MethodName := ⟨RX2, "<init>", "(I)V"⟩
abbrev cX2_shortest : ByteArray := prog_4_method_2_code
def yX2_shortest : MethodName := ⟨RX2, "shortest", "([II)I"⟩
abbrev cX2_isNear : ByteArray := prog_4_method_3_code
def yX2_isNear : MethodName := ⟨RX2, "isNear", "([III)Z"⟩
def RX3 : String := "WordBench$PowerLaw"
def TX3 : u_T := fun k => match k with
  | 0 => ("WordBench$PowerLaw", "upper", "I", true)
  | 1 => ("WordBench$PowerLaw", "lower", "I", true)
  | _ => ("WordBench$PowerLaw", "above", "Z", true)
def tyX3 : Nat → FieldType := fun k => match k with
  | 0 => .int
  | 1 => .int
  | _ => .boolean
abbrev wsX30 : List Cond := u_ws RX3 TX3 3
theorem nmX3 : ∀ a, a < 3 → ∀ b, b < 3 → a ≠ b → (TX3 a).2.1 ≠ (TX3 b).2.1 := by decide +kernel
theorem tyX3_ok : ∀ k, k < 3 → parseFieldDescriptor (TX3 k).2.2.1 = some (tyX3 k) := by decide +kernel
abbrev cX3_init : ByteArray := prog_5_method_1_code
def yX3_init : MethodName := ⟨RX3, "<init>", "(IIZ)V"⟩
abbrev cX3_shortest : ByteArray := prog_5_method_2_code
def yX3_shortest : MethodName := ⟨RX3, "shortest", "([II)I"⟩
def RX4 : String := "WordBench$Search"
def TX4 : u_T := fun k => match k with
  | 0 => ("WordBench$Search", "made", "[I", true)
  | 1 => ("WordBench$Search", "laws", "[LWordBench$Law;", false)
  | 2 => ("WordBench$Search", "set", "I", false)
  | 3 => ("WordBench$Search", "alphabet", "I", false)
  | 4 => ("WordBench$Search", "wanted", "I", false)
  | 5 => ("WordBench$Search", "cost", "I", false)
  | 6 => ("WordBench$Search", "looks", "I", false)
  | 7 => ("WordBench$Search", "found", "I", false)
  | 8 => ("WordBench$Search", "most", "I", false)
  | 9 => ("WordBench$Search", "size", "I", false)
  | 10 => ("WordBench$Search", "next", "I", false)
  | _ => ("WordBench$Search", "begun", "Z", false)
def tyX4 : Nat → FieldType := fun k => match k with
  | 0 => .array .int
  | 1 => .array (.object "WordBench$Law")
  | 2 => .int
  | 3 => .int
  | 4 => .int
  | 5 => .int
  | 6 => .int
  | 7 => .int
  | 8 => .int
  | 9 => .int
  | 10 => .int
  | _ => .boolean
abbrev wsX40 : List Cond := u_ws RX4 TX4 12
theorem nmX4 : ∀ a, a < 12 → ∀ b, b < 12 → a ≠ b → (TX4 a).2.1 ≠ (TX4 b).2.1 := by decide +kernel
theorem tyX4_ok : ∀ k, k < 12 → parseFieldDescriptor (TX4 k).2.2.1 = some (tyX4 k) := by decide +kernel
abbrev cX4_init : ByteArray := prog_6_method_1_code
def yX4_init : MethodName := ⟨RX4, "<init>", "()V"⟩
abbrev cX4_forgetLooks : ByteArray := prog_6_method_2_code
def yX4_forgetLooks : MethodName := ⟨RX4, "forgetLooks", "()V"⟩
abbrev cX4_begin : ByteArray := prog_6_method_3_code
def yX4_begin : MethodName := ⟨RX4, "begin", "([LWordBench$Law;III)V"⟩
abbrev cX4_hasShape : ByteArray := prog_6_method_4_code
def yX4_hasShape : MethodName := ⟨RX4, "hasShape", "()Z"⟩
abbrev cX4_advanceBy : ByteArray := prog_6_method_5_code
def yX4_advanceBy : MethodName := ⟨RX4, "advanceBy", "(I)I"⟩
abbrev cX4_advance : ByteArray := prog_6_method_6_code
def yX4_advance : MethodName := ⟨RX4, "advance", "()I"⟩
abbrev cX4_takeLook : ByteArray := prog_6_method_7_code
def yX4_takeLook : MethodName := ⟨RX4, "takeLook", "()Z"⟩
abbrev cX4_putBehind : ByteArray := prog_6_method_8_code
def yX4_putBehind : MethodName := ⟨RX4, "putBehind", "()Z"⟩
def RX5 : String := "WordBench$ShapeLaw"
def TX5 : u_T := fun k => match k with
  | 0 => ("WordBench$ShapeLaw", "told", "[I", true)
  | 1 => ("WordBench$ShapeLaw", "tail", "I", true)
  | 2 => ("WordBench$ShapeLaw", "times", "[I", true)
  | 3 => ("WordBench$ShapeLaw", "sizes", "[I", true)
  | 4 => ("WordBench$ShapeLaw", "ends", "[I", true)
  | 5 => ("WordBench$ShapeLaw", "steps", "[I", true)
  | _ => ("WordBench$ShapeLaw", "best", "I", false)
def tyX5 : Nat → FieldType := fun k => match k with
  | 0 => .array .int
  | 1 => .int
  | 2 => .array .int
  | 3 => .array .int
  | 4 => .array .int
  | 5 => .array .int
  | _ => .int
abbrev wsX50 : List Cond := u_ws RX5 TX5 7
theorem nmX5 : ∀ a, a < 7 → ∀ b, b < 7 → a ≠ b → (TX5 a).2.1 ≠ (TX5 b).2.1 := by decide +kernel
theorem tyX5_ok : ∀ k, k < 7 → parseFieldDescriptor (TX5 k).2.2.1 = some (tyX5 k) := by decide +kernel
abbrev cX5_init : ByteArray := prog_7_method_1_code
def yX5_init : MethodName := ⟨RX5, "<init>", "([I)V"⟩
abbrev cX5_shortest : ByteArray := prog_7_method_2_code
def yX5_shortest : MethodName := ⟨RX5, "shortest", "([II)I"⟩
abbrev cX5_fit : ByteArray := prog_7_method_3_code
def yX5_fit : MethodName := ⟨RX5, "fit", "([IIII)V"⟩
abbrev cX5_mostFor : ByteArray := prog_7_method_4_code
def yX5_mostFor : MethodName := ⟨RX5, "mostFor", "([III)I"⟩
abbrev cX5_areSame : ByteArray := prog_7_method_5_code
def yX5_areSame : MethodName := ⟨RX5, "areSame", "([IIII)Z"⟩
abbrev cX5_unknowns : ByteArray := prog_7_method_6_code
def yX5_unknowns : MethodName := ⟨RX5, "unknowns", "()I"⟩
abbrev cX5_standsInZimin : ByteArray := prog_7_method_7_code
def yX5_standsInZimin : MethodName := ⟨RX5, "standsInZimin", "()Z"⟩
abbrev cX5_seekSteps : ByteArray := prog_7_method_8_code
def yX5_seekSteps : MethodName := ⟨RX5, "seekSteps", "()I"⟩
abbrev cX5_stepAt : ByteArray := prog_7_method_9_code
def yX5_stepAt : MethodName := ⟨RX5, "stepAt", "(I)I"⟩
abbrev cX5_takeOff : ByteArray := prog_7_method_10_code
def yX5_takeOff : MethodName := ⟨RX5, "takeOff", "(II)I"⟩
abbrev cX5_isLoose : ByteArray := prog_7_method_11_code
def yX5_isLoose : MethodName := ⟨RX5, "isLoose", "(II)Z"⟩
abbrev cX5_reachOn : ByteArray := prog_7_method_12_code
def yX5_reachOn : MethodName := ⟨RX5, "reachOn", "(II)I"⟩
def RX6 : String := "WordBench$Sheet"
def TX6 : u_T := fun k => match k with
  | 0 => ("WordBench$Sheet", "width", "I", true)
  | 1 => ("WordBench$Sheet", "numbers", "[I", true)
  | _ => ("WordBench$Sheet", "sizes", "[I", true)
def tyX6 : Nat → FieldType := fun k => match k with
  | 0 => .int
  | 1 => .array .int
  | _ => .array .int
abbrev wsX60 : List Cond := u_ws RX6 TX6 3
theorem nmX6 : ∀ a, a < 3 → ∀ b, b < 3 → a ≠ b → (TX6 a).2.1 ≠ (TX6 b).2.1 := by decide +kernel
theorem tyX6_ok : ∀ k, k < 3 → parseFieldDescriptor (TX6 k).2.2.1 = some (tyX6 k) := by decide +kernel
abbrev cX6_init : ByteArray := prog_8_method_1_code
def yX6_init : MethodName := ⟨RX6, "<init>", "(I)V"⟩
abbrev cX6_sizeOf : ByteArray := prog_8_method_2_code
def yX6_sizeOf : MethodName := ⟨RX6, "sizeOf", "(I)I"⟩
abbrev cX6_renew : ByteArray := prog_8_method_3_code
def yX6_renew : MethodName := ⟨RX6, "renew", "(II)V"⟩
abbrev cX6_write : ByteArray := prog_8_method_4_code
def yX6_write : MethodName := ⟨RX6, "write", "(III)V"⟩
abbrev cX6_drop : ByteArray := prog_8_method_5_code
def yX6_drop : MethodName := ⟨RX6, "drop", "(I)I"⟩
abbrev cX6_copyIn : ByteArray := prog_8_method_6_code
def yX6_copyIn : MethodName := ⟨RX6, "copyIn", "(I[II)V"⟩
abbrev cX6_readInto : ByteArray := prog_8_method_7_code
def yX6_readInto : MethodName := ⟨RX6, "readInto", "(I[I)I"⟩
def RX7 : String := "WordBench$ToldLaw"
def TX7 : u_T := fun k => match k with
  | _ => ("WordBench$ToldLaw", "told", "[I", true)
def tyX7 : Nat → FieldType := fun k => match k with
  | _ => .array .int
abbrev wsX70 : List Cond := u_ws RX7 TX7 1
theorem nmX7 : ∀ a, a < 1 → ∀ b, b < 1 → a ≠ b → (TX7 a).2.1 ≠ (TX7 b).2.1 := by decide +kernel
theorem tyX7_ok : ∀ k, k < 1 → parseFieldDescriptor (TX7 k).2.2.1 = some (tyX7 k) := by decide +kernel
abbrev cX7_init : ByteArray := prog_9_method_1_code
def yX7_init : MethodName := ⟨RX7, "<init>", "([I)V"⟩
abbrev cX7_shortest : ByteArray := prog_9_method_2_code
def yX7_shortest : MethodName := ⟨RX7, "shortest", "([II)I"⟩
def RX8 : String := "WordBench$TurnedLaw"
def TX8 : u_T := fun k => match k with
  | _ => ("", "", "", false)
def tyX8 : Nat → FieldType := fun k => match k with
  | _ => .int
abbrev wsX80 : List Cond := u_ws RX8 TX8 0
theorem nmX8 : ∀ a, a < 0 → ∀ b, b < 0 → a ≠ b → (TX8 a).2.1 ≠ (TX8 b).2.1 := by decide +kernel
theorem tyX8_ok : ∀ k, k < 0 → parseFieldDescriptor (TX8 k).2.2.1 = some (tyX8 k) := by decide +kernel
abbrev cX8_init : ByteArray := prog_10_method_1_code
def yX8_init : MethodName := ⟨RX8, "<init>", "()V"⟩
abbrev cX8_shortest : ByteArray := prog_10_method_2_code
def yX8_shortest : MethodName := ⟨RX8, "shortest", "([II)I"⟩
abbrev cX8_weight : ByteArray := prog_10_method_3_code
def yX8_weight : MethodName := ⟨RX8, "weight", "(I)J"⟩
def RX9 : String := "WordBench"
def TX9 : u_T := fun k => match k with
  | 0 => ("WordBench", "sheets", "[LWordBench$Sheet;", true)
  | 1 => ("WordBench", "sheetCount", "I", false)
  | 2 => ("WordBench", "laws", "[LWordBench$Law;", true)
  | 3 => ("WordBench", "lawCount", "I", false)
  | 4 => ("WordBench", "maps", "[LWordBench$LetterMap;", true)
  | 5 => ("WordBench", "squareLaws", "[LWordBench$Law;", true)
  | 6 => ("WordBench", "search", "LWordBench$Search;", true)
  | 7 => ("WordBench", "letters", "[I", true)
  | _ => ("WordBench", "grown", "[I", true)
def tyX9 : Nat → FieldType := fun k => match k with
  | 0 => .array (.object "WordBench$Sheet")
  | 1 => .int
  | 2 => .array (.object "WordBench$Law")
  | 3 => .int
  | 4 => .array (.object "WordBench$LetterMap")
  | 5 => .array (.object "WordBench$Law")
  | 6 => .object "WordBench$Search"
  | 7 => .array .int
  | _ => .array .int
abbrev wsX90 : List Cond := u_ws RX9 TX9 9
theorem nmX9 : ∀ a, a < 9 → ∀ b, b < 9 → a ≠ b → (TX9 a).2.1 ≠ (TX9 b).2.1 := by decide +kernel
theorem tyX9_ok : ∀ k, k < 9 → parseFieldDescriptor (TX9 k).2.2.1 = some (tyX9 k) := by decide +kernel
abbrev cX9_init : ByteArray := prog_1_method_1_code
def yX9_init : MethodName := ⟨RX9, "<init>", "()V"⟩
abbrev cX9_sheet : ByteArray := prog_1_method_2_code
def yX9_sheet : MethodName := ⟨RX9, "sheet", "(I)I"⟩
abbrev cX9_row : ByteArray := prog_1_method_3_code
def yX9_row : MethodName := ⟨RX9, "row", "(III)I"⟩
abbrev cX9_put : ByteArray := prog_1_method_4_code
def yX9_put : MethodName := ⟨RX9, "put", "(IIII)I"⟩
abbrev cX9_tear : ByteArray := prog_1_method_5_code
def yX9_tear : MethodName := ⟨RX9, "tear", "(II)I"⟩
abbrev cX9_word : ByteArray := prog_1_method_6_code
def yX9_word : MethodName := ⟨RX9, "word", "(II)I"⟩
abbrev cX9_letter : ByteArray := prog_1_method_7_code
def yX9_letter : MethodName := ⟨RX9, "letter", "(III)I"⟩
abbrev cX9_law : ByteArray := prog_1_method_8_code
def yX9_law : MethodName := ⟨RX9, "law", "(III)I"⟩
abbrev cX9_count : ByteArray := prog_1_method_9_code
def yX9_count : MethodName := ⟨RX9, "count", "(I)I"⟩
abbrev cX9_power : ByteArray := prog_1_method_10_code
def yX9_power : MethodName := ⟨RX9, "power", "(III)I"⟩
abbrev cX9_run : ByteArray := prog_1_method_11_code
def yX9_run : MethodName := ⟨RX9, "run", "(IIII)I"⟩
abbrev cX9_clash : ByteArray := prog_1_method_12_code
def yX9_clash : MethodName := ⟨RX9, "clash", "(IIII)I"⟩
abbrev cX9_many : ByteArray := prog_1_method_13_code
def yX9_many : MethodName := ⟨RX9, "many", "(III)I"⟩
abbrev cX9_find : ByteArray := prog_1_method_14_code
def yX9_find : MethodName := ⟨RX9, "find", "(IIIII)I"⟩
abbrev cX9_rank : ByteArray := prog_1_method_15_code
def yX9_rank : MethodName := ⟨RX9, "rank", "(IIII)I"⟩
abbrev cX9_longest : ByteArray := prog_1_method_16_code
def yX9_longest : MethodName := ⟨RX9, "longest", "(II)I"⟩
abbrev cX9_map : ByteArray := prog_1_method_17_code
def yX9_map : MethodName := ⟨RX9, "map", "(IIII)I"⟩
abbrev cX9_image : ByteArray := prog_1_method_18_code
def yX9_image : MethodName := ⟨RX9, "image", "(IIII)I"⟩
abbrev cX9_keeps : ByteArray := prog_1_method_19_code
def yX9_keeps : MethodName := ⟨RX9, "keeps", "(II)I"⟩
abbrev cX9_at : ByteArray := prog_1_method_20_code
def yX9_at : MethodName := ⟨RX9, "at", "(III)I"⟩
abbrev cX9_shape : ByteArray := prog_1_method_21_code
def yX9_shape : MethodName := ⟨RX9, "shape", "(II)I"⟩
abbrev cX9_tellShape : ByteArray := prog_1_method_22_code
def yX9_tellShape : MethodName := ⟨RX9, "tellShape", "(LWordBench$ShapeLaw;I)I"⟩
abbrev cX9_sheetOf : ByteArray := prog_1_method_23_code
def yX9_sheetOf : MethodName := ⟨RX9, "sheetOf", "(I)LWordBench$Sheet;"⟩
abbrev cX9_needRow : ByteArray := prog_1_method_24_code
def yX9_needRow : MethodName := ⟨RX9, "needRow", "(I)V"⟩
abbrev cX9_sheetWithRow : ByteArray := prog_1_method_25_code
def yX9_sheetWithRow : MethodName := ⟨RX9, "sheetWithRow", "(II)LWordBench$Sheet;"⟩
abbrev cX9_readWord : ByteArray := prog_1_method_26_code
def yX9_readWord : MethodName := ⟨RX9, "readWord", "(II)I"⟩
abbrev cX9_mapOf : ByteArray := prog_1_method_27_code
def yX9_mapOf : MethodName := ⟨RX9, "mapOf", "(I)LWordBench$LetterMap;"⟩
abbrev cX9_needWhat : ByteArray := prog_1_method_28_code
def yX9_needWhat : MethodName := ⟨RX9, "needWhat", "(II)V"⟩
abbrev cX9_needSet : ByteArray := prog_1_method_29_code
def yX9_needSet : MethodName := ⟨RX9, "needSet", "(I)V"⟩
abbrev cX9_needAlphabet : ByteArray := prog_1_method_30_code
def yX9_needAlphabet : MethodName := ⟨RX9, "needAlphabet", "(I)V"⟩
abbrev cX9_needSearch : ByteArray := prog_1_method_31_code
def yX9_needSearch : MethodName := ⟨RX9, "needSearch", "(III)V"⟩
abbrev cX9_lawOfRow : ByteArray := prog_1_method_32_code
def yX9_lawOfRow : MethodName := ⟨RX9, "lawOfRow", "(III)LWordBench$Law;"⟩
abbrev cX9_lawOfNumbers : ByteArray := prog_1_method_33_code
def yX9_lawOfNumbers : MethodName := ⟨RX9, "lawOfNumbers", "(III)LWordBench$Law;"⟩
abbrev cX9_areNumbersFor : ByteArray := prog_1_method_34_code
def yX9_areNumbersFor : MethodName := ⟨RX9, "areNumbersFor", "(III)Z"⟩
abbrev cX9_areBelow : ByteArray := prog_1_method_35_code
def yX9_areBelow : MethodName := ⟨RX9, "areBelow", "([III)Z"⟩
abbrev cX9_areAlike : ByteArray := prog_1_method_36_code
def yX9_areAlike : MethodName := ⟨RX9, "areAlike", "([I[II)Z"⟩
abbrev cX9_periodEnd : ByteArray := prog_1_method_37_code
def yX9_periodEnd : MethodName := ⟨RX9, "periodEnd", "([IIII)I"⟩
abbrev cX9_leastPeriod : ByteArray := prog_1_method_38_code
def yX9_leastPeriod : MethodName := ⟨RX9, "leastPeriod", "([III)I"⟩
abbrev cX9_lowestTerm : ByteArray := prog_1_method_39_code
def yX9_lowestTerm : MethodName := ⟨RX9, "lowestTerm", "(II)I"⟩
abbrev cX9_seekRun : ByteArray := prog_1_method_40_code
def yX9_seekRun : MethodName := ⟨RX9, "seekRun", "(III)I"⟩
abbrev cX9_runEnd : ByteArray := prog_1_method_41_code
def yX9_runEnd : MethodName := ⟨RX9, "runEnd", "(III)I"⟩
abbrev cX9_clashLetters : ByteArray := prog_1_method_42_code
def yX9_clashLetters : MethodName := ⟨RX9, "clashLetters", "(II)I"⟩
abbrev cX9_barringLaw : ByteArray := prog_1_method_43_code
def yX9_barringLaw : MethodName := ⟨RX9, "barringLaw", "([LWordBench$Law;I[II)I"⟩
abbrev cX9_fillMap : ByteArray := prog_1_method_44_code
def yX9_fillMap : MethodName := ⟨RX9, "fillMap", "(LWordBench$LetterMap;ILWordBench$Sheet;I)V"⟩
abbrev cX9_seekFailure : ByteArray := prog_1_method_45_code
def yX9_seekFailure : MethodName := ⟨RX9, "seekFailure", "(LWordBench$LetterMap;I)I"⟩
abbrev cX9_isFailure : ByteArray := prog_1_method_46_code
def yX9_isFailure : MethodName := ⟨RX9, "isFailure", "(LWordBench$LetterMap;I)Z"⟩
def RX10 : String := "WordBenchModel"
def TX10 : u_T := fun k => match k with
  | 0 => ("WordBenchModel", "thrown", "I", false)
  | 1 => ("WordBenchModel", "sheets", "I", false)
  | 2 => ("WordBenchModel", "width", "[I", true)
  | 3 => ("WordBenchModel", "rowSize", "[I", true)
  | 4 => ("WordBenchModel", "number", "[I", true)
  | 5 => ("WordBenchModel", "read", "[I", true)
  | 6 => ("WordBenchModel", "readMany", "I", false)
  | 7 => ("WordBenchModel", "laws", "I", false)
  | 8 => ("WordBenchModel", "kind", "[I", true)
  | 9 => ("WordBenchModel", "lawA", "[I", true)
  | 10 => ("WordBenchModel", "lawB", "[I", true)
  | 11 => ("WordBenchModel", "lawSize", "[I", true)
  | 12 => ("WordBenchModel", "lawWord", "[I", true)
  | 13 => ("WordBenchModel", "often", "[I", true)
  | 14 => ("WordBenchModel", "begins", "[I", true)
  | 15 => ("WordBenchModel", "sizes", "[I", true)
  | 16 => ("WordBenchModel", "runI", "[I", true)
  | 17 => ("WordBenchModel", "runJ", "[I", true)
  | 18 => ("WordBenchModel", "runP", "[I", true)
  | 19 => ("WordBenchModel", "runMany", "I", false)
  | 20 => ("WordBenchModel", "clashAt", "I", false)
  | 21 => ("WordBenchModel", "clashLaw", "I", false)
  | 22 => ("WordBenchModel", "clashSpan", "I", false)
  | 23 => ("WordBenchModel", "looks", "I", false)
  | 24 => ("WordBenchModel", "cost", "I", false)
  | 25 => ("WordBenchModel", "searchSet", "I", false)
  | 26 => ("WordBenchModel", "searchAlphabet", "I", false)
  | 27 => ("WordBenchModel", "searchSize", "I", false)
  | 28 => ("WordBenchModel", "deep", "I", false)
  | 29 => ("WordBenchModel", "longest", "I", false)
  | 30 => ("WordBenchModel", "way", "[I", true)
  | 31 => ("WordBenchModel", "isSpent", "Z", false)
  | 32 => ("WordBenchModel", "isSquares", "Z", false)
  | 33 => ("WordBenchModel", "hasBegun", "Z", false)
  | 34 => ("WordBenchModel", "asked", "[I", true)
  | 35 => ("WordBenchModel", "isMade", "[Z", true)
  | 36 => ("WordBenchModel", "mapAlphabet", "[I", true)
  | 37 => ("WordBenchModel", "mapSize", "[I", true)
  | 38 => ("WordBenchModel", "mapWord", "[I", true)
  | 39 => ("WordBenchModel", "image", "[I", true)
  | 40 => ("WordBenchModel", "imageMany", "I", false)
  | 41 => ("WordBenchModel", "grown", "[J", true)
  | 42 => ("WordBenchModel", "left", "[I", true)
  | 43 => ("WordBenchModel", "leftMany", "[I", true)
  | 44 => ("WordBenchModel", "stepSet", "[I", true)
  | 45 => ("WordBenchModel", "side", "[I", true)
  | 46 => ("WordBenchModel", "steps", "I", false)
  | _ => ("WordBenchModel", "zimin", "[I", true)
def tyX10 : Nat → FieldType := fun k => match k with
  | 0 => .int
  | 1 => .int
  | 2 => .array .int
  | 3 => .array .int
  | 4 => .array .int
  | 5 => .array .int
  | 6 => .int
  | 7 => .int
  | 8 => .array .int
  | 9 => .array .int
  | 10 => .array .int
  | 11 => .array .int
  | 12 => .array .int
  | 13 => .array .int
  | 14 => .array .int
  | 15 => .array .int
  | 16 => .array .int
  | 17 => .array .int
  | 18 => .array .int
  | 19 => .int
  | 20 => .int
  | 21 => .int
  | 22 => .int
  | 23 => .int
  | 24 => .int
  | 25 => .int
  | 26 => .int
  | 27 => .int
  | 28 => .int
  | 29 => .int
  | 30 => .array .int
  | 31 => .boolean
  | 32 => .boolean
  | 33 => .boolean
  | 34 => .array .int
  | 35 => .array .boolean
  | 36 => .array .int
  | 37 => .array .int
  | 38 => .array .int
  | 39 => .array .int
  | 40 => .int
  | 41 => .array .long
  | 42 => .array .int
  | 43 => .array .int
  | 44 => .array .int
  | 45 => .array .int
  | 46 => .int
  | _ => .array .int
abbrev wsX100 : List Cond := u_ws RX10 TX10 48
theorem nmX10 : ∀ a, a < 48 → ∀ b, b < 48 → a ≠ b → (TX10 a).2.1 ≠ (TX10 b).2.1 := by decide +kernel
theorem tyX10_ok : ∀ k, k < 48 → parseFieldDescriptor (TX10 k).2.2.1 = some (tyX10 k) := by decide +kernel
abbrev cX10_thrown : ByteArray := prog_12_method_1_code
def yX10_thrown : MethodName := ⟨RX10, "thrown", "()I"⟩
abbrev cX10_may : ByteArray := prog_12_method_2_code
def yX10_may : MethodName := ⟨RX10, "may", "(ZI)Z"⟩
abbrev cX10_init : ByteArray := prog_12_method_3_code
def yX10_init : MethodName := ⟨RX10, "<init>", "()V"⟩
abbrev cX10_sheet : ByteArray := prog_12_method_4_code
def yX10_sheet : MethodName := ⟨RX10, "sheet", "(I)I"⟩
abbrev cX10_isSheet : ByteArray := prog_12_method_5_code
def yX10_isSheet : MethodName := ⟨RX10, "isSheet", "(I)Z"⟩
abbrev cX10_isRow : ByteArray := prog_12_method_6_code
def yX10_isRow : MethodName := ⟨RX10, "isRow", "(III)Z"⟩
abbrev cX10_row : ByteArray := prog_12_method_7_code
def yX10_row : MethodName := ⟨RX10, "row", "(III)I"⟩
abbrev cX10_put : ByteArray := prog_12_method_8_code
def yX10_put : MethodName := ⟨RX10, "put", "(IIII)I"⟩
abbrev cX10_tear : ByteArray := prog_12_method_9_code
def yX10_tear : MethodName := ⟨RX10, "tear", "(II)I"⟩
abbrev cX10_reads : ByteArray := prog_12_method_10_code
def yX10_reads : MethodName := ⟨RX10, "reads", "(II)Z"⟩
abbrev cX10_word : ByteArray := prog_12_method_11_code
def yX10_word : MethodName := ⟨RX10, "word", "(II)I"⟩
abbrev cX10_letter : ByteArray := prog_12_method_12_code
def yX10_letter : MethodName := ⟨RX10, "letter", "(III)I"⟩
abbrev cX10_write : ByteArray := prog_12_method_13_code
def yX10_write : MethodName := ⟨RX10, "write", "(I[II)V"⟩
abbrev cX10_law : ByteArray := prog_12_method_14_code
def yX10_law : MethodName := ⟨RX10, "law", "(III)I"⟩
abbrev cX10_count : ByteArray := prog_12_method_15_code
def yX10_count : MethodName := ⟨RX10, "count", "(I)I"⟩
abbrev cX10_isPeriod : ByteArray := prog_12_method_16_code
def yX10_isPeriod : MethodName := ⟨RX10, "isPeriod", "([IIII)Z"⟩
abbrev cX10_period : ByteArray := prog_12_method_17_code
def yX10_period : MethodName := ⟨RX10, "period", "([III)I"⟩
abbrev cX10_isTurned : ByteArray := prog_12_method_18_code
def yX10_isTurned : MethodName := ⟨RX10, "isTurned", "([III)Z"⟩
abbrev cX10_isBarred : ByteArray := prog_12_method_19_code
def yX10_isBarred : MethodName := ⟨RX10, "isBarred", "(I[III)Z"⟩
abbrev cX10_comesOf : ByteArray := prog_12_method_20_code
def yX10_comesOf : MethodName := ⟨RX10, "comesOf", "([III[III)Z"⟩
abbrev cX10_has : ByteArray := prog_12_method_21_code
def yX10_has : MethodName := ⟨RX10, "has", "([IIII)Z"⟩
abbrev cX10_fits : ByteArray := prog_12_method_22_code
def yX10_fits : MethodName := ⟨RX10, "fits", "([III[III)Z"⟩
abbrev cX10_isIn : ByteArray := prog_12_method_23_code
def yX10_isIn : MethodName := ⟨RX10, "isIn", "(II)Z"⟩
abbrev cX10_keepsLast : ByteArray := prog_12_method_24_code
def yX10_keepsLast : MethodName := ⟨RX10, "keepsLast", "(I[II)Z"⟩
abbrev cX10_isSet : ByteArray := prog_12_method_25_code
def yX10_isSet : MethodName := ⟨RX10, "isSet", "(I)Z"⟩
abbrev cX10_power : ByteArray := prog_12_method_26_code
def yX10_power : MethodName := ⟨RX10, "power", "(III)I"⟩
abbrev cX10_gcd : ByteArray := prog_12_method_27_code
def yX10_gcd : MethodName := ⟨RX10, "gcd", "(II)I"⟩
abbrev cX10_findRuns : ByteArray := prog_12_method_28_code
def yX10_findRuns : MethodName := ⟨RX10, "findRuns", "()V"⟩
abbrev cX10_run : ByteArray := prog_12_method_29_code
def yX10_run : MethodName := ⟨RX10, "run", "(IIII)I"⟩
abbrev cX10_findClash : ByteArray := prog_12_method_30_code
def yX10_findClash : MethodName := ⟨RX10, "findClash", "(I[II)V"⟩
abbrev cX10_clash : ByteArray := prog_12_method_31_code
def yX10_clash : MethodName := ⟨RX10, "clash", "(IIII)I"⟩
abbrev cX10_beginSearch : ByteArray := prog_12_method_32_code
def yX10_beginSearch : MethodName := ⟨RX10, "beginSearch", "(III)V"⟩
abbrev cX10_look : ByteArray := prog_12_method_33_code
def yX10_look : MethodName := ⟨RX10, "look", "()Z"⟩
abbrev cX10_keepsWay : ByteArray := prog_12_method_34_code
def yX10_keepsWay : MethodName := ⟨RX10, "keepsWay", "()Z"⟩
abbrev cX10_next : ByteArray := prog_12_method_35_code
def yX10_next : MethodName := ⟨RX10, "next", "()Z"⟩
abbrev cX10_maySearch : ByteArray := prog_12_method_36_code
def yX10_maySearch : MethodName := ⟨RX10, "maySearch", "(II)Z"⟩
abbrev cX10_many : ByteArray := prog_12_method_37_code
def yX10_many : MethodName := ⟨RX10, "many", "(III)I"⟩
abbrev cX10_find : ByteArray := prog_12_method_38_code
def yX10_find : MethodName := ⟨RX10, "find", "(IIIII)I"⟩
abbrev cX10_rank : ByteArray := prog_12_method_39_code
def yX10_rank : MethodName := ⟨RX10, "rank", "(IIII)I"⟩
abbrev cX10_longest : ByteArray := prog_12_method_40_code
def yX10_longest : MethodName := ⟨RX10, "longest", "(II)I"⟩
abbrev cX10_map : ByteArray := prog_12_method_41_code
def yX10_map : MethodName := ⟨RX10, "map", "(IIII)I"⟩
abbrev cX10_isMap : ByteArray := prog_12_method_42_code
def yX10_isMap : MethodName := ⟨RX10, "isMap", "(I)Z"⟩
abbrev cX10_findImage : ByteArray := prog_12_method_43_code
def yX10_findImage : MethodName := ⟨RX10, "findImage", "(I[II)V"⟩
abbrev cX10_image : ByteArray := prog_12_method_44_code
def yX10_image : MethodName := ⟨RX10, "image", "(IIII)I"⟩
abbrev cX10_hasSquare : ByteArray := prog_12_method_45_code
def yX10_hasSquare : MethodName := ⟨RX10, "hasSquare", "()Z"⟩
abbrev cX10_keeps : ByteArray := prog_12_method_46_code
def yX10_keeps : MethodName := ⟨RX10, "keeps", "(II)I"⟩
abbrev cX10_at : ByteArray := prog_12_method_47_code
def yX10_at : MethodName := ⟨RX10, "at", "(III)I"⟩
abbrev cX10_isLoose : ByteArray := prog_12_method_48_code
def yX10_isLoose : MethodName := ⟨RX10, "isLoose", "(II)Z"⟩
abbrev cX10_findSteps : ByteArray := prog_12_method_49_code
def yX10_findSteps : MethodName := ⟨RX10, "findSteps", "(I)Z"⟩
abbrev cX10_stands : ByteArray := prog_12_method_50_code
def yX10_stands : MethodName := ⟨RX10, "stands", "(I)Z"⟩
abbrev cX10_shape : ByteArray := prog_12_method_51_code
def yX10_shape : MethodName := ⟨RX10, "shape", "(II)I"⟩
def RJ6 : String := "java/lang/Integer"
abbrev cJ6_bitCount_0f7a4 : ByteArray := prog_20_method_49_code
def yJ6_bitCount_0f7a4 : MethodName := ⟨RJ6, "bitCount", "(I)I"⟩
def RJ9 : String := "java/lang/Math"
abbrev cJ9_max_7cf53 : ByteArray := prog_21_method_65_code
def yJ9_max_7cf53 : MethodName := ⟨RJ9, "max", "(II)I"⟩
abbrev cJ9_min_7cf53 : ByteArray := prog_21_method_69_code
def yJ9_min_7cf53 : MethodName := ⟨RJ9, "min", "(II)I"⟩
abbrev cJ9_min_f86c9 : ByteArray := prog_21_method_70_code
def yJ9_min_f86c9 : MethodName := ⟨RJ9, "min", "(JJ)J"⟩
def RJ10 : String := "java/lang/System"
def RJ7 : String := "java/util/Arrays"
abbrev cJ7_rangeCheck_23922 : ByteArray := prog_29_method_30_code
def yJ7_rangeCheck_23922 : MethodName := ⟨RJ7, "rangeCheck", "(III)V"⟩
abbrev cJ7_fill_bad5a : ByteArray := prog_29_method_102_code
def yJ7_fill_bad5a : MethodName := ⟨RJ7, "fill", "([JIIJ)V"⟩
abbrev cJ7_fill_53178 : ByteArray := prog_29_method_103_code
def yJ7_fill_53178 : MethodName := ⟨RJ7, "fill", "([II)V"⟩
abbrev cJ7_fill_fda19 : ByteArray := prog_29_method_104_code
def yJ7_fill_fda19 : MethodName := ⟨RJ7, "fill", "([IIII)V"⟩
abbrev cJ7_copyOf_59c91 : ByteArray := prog_29_method_123_code
def yJ7_copyOf_59c91 : MethodName := ⟨RJ7, "copyOf", "([II)[I"⟩
def RL : String := "WordBenchLaw"
abbrev cL_sheet : ByteArray := method_3_code
def yL_sheet : MethodName := ⟨RL, "sheet", "(LWordBench;I[J)I"⟩
abbrev cL_row : ByteArray := method_4_code
def yL_row : MethodName := ⟨RL, "row", "(LWordBench;III[J)I"⟩
abbrev cL_put : ByteArray := method_5_code
def yL_put : MethodName := ⟨RL, "put", "(LWordBench;IIII[J)I"⟩
abbrev cL_tear : ByteArray := method_6_code
def yL_tear : MethodName := ⟨RL, "tear", "(LWordBench;II[J)I"⟩
abbrev cL_word : ByteArray := method_7_code
def yL_word : MethodName := ⟨RL, "word", "(LWordBench;II[J)I"⟩
abbrev cL_letter : ByteArray := method_8_code
def yL_letter : MethodName := ⟨RL, "letter", "(LWordBench;III[J)I"⟩
abbrev cL_law : ByteArray := method_9_code
def yL_law : MethodName := ⟨RL, "law", "(LWordBench;III[J)I"⟩
abbrev cL_power : ByteArray := method_10_code
def yL_power : MethodName := ⟨RL, "power", "(LWordBench;III[J)I"⟩
abbrev cL_run : ByteArray := method_11_code
def yL_run : MethodName := ⟨RL, "run", "(LWordBench;IIII[J)I"⟩
abbrev cL_clash : ByteArray := method_12_code
def yL_clash : MethodName := ⟨RL, "clash", "(LWordBench;IIII[J)I"⟩
abbrev cL_many : ByteArray := method_13_code
def yL_many : MethodName := ⟨RL, "many", "(LWordBench;III[J)I"⟩
abbrev cL_find : ByteArray := method_14_code
def yL_find : MethodName := ⟨RL, "find", "(LWordBench;IIIII[J)I"⟩
abbrev cL_rank : ByteArray := method_15_code
def yL_rank : MethodName := ⟨RL, "rank", "(LWordBench;IIII[J)I"⟩
abbrev cL_longest : ByteArray := method_16_code
def yL_longest : MethodName := ⟨RL, "longest", "(LWordBench;II[J)I"⟩
abbrev cL_map : ByteArray := method_17_code
def yL_map : MethodName := ⟨RL, "map", "(LWordBench;IIII[J)I"⟩
abbrev cL_image : ByteArray := method_18_code
def yL_image : MethodName := ⟨RL, "image", "(LWordBench;IIII[J)I"⟩
abbrev cL_keeps : ByteArray := method_19_code
def yL_keeps : MethodName := ⟨RL, "keeps", "(LWordBench;II[J)I"⟩
abbrev cL_at : ByteArray := method_20_code
def yL_at : MethodName := ⟨RL, "at", "(LWordBench;III[J)I"⟩
abbrev cL_shape : ByteArray := method_21_code
def yL_shape : MethodName := ⟨RL, "shape", "(LWordBench;II[J)I"⟩
abbrev cL_law_ : ByteArray := code
def yL_law_ : MethodName := ⟨RL, "law", "([I)Z"⟩
end
section
theorem dX0_init_0 : decode cX0_init 0 = .ok (.aload_n 0, 1) := by decide +kernel
theorem dX0_init_1 : decode cX0_init 1 = .ok (.invokespecial 1, 3) := by decide +kernel
theorem dX0_init_4 : decode cX0_init 4 = .ok (.return_, 1) := by decide +kernel
theorem dX1_init_0 : decode cX1_init 0 = .ok (.aload_n 0, 1) := by decide +kernel
theorem dX1_init_1 : decode cX1_init 1 = .ok (.invokespecial 3, 3) := by decide +kernel
theorem dX1_init_4 : decode cX1_init 4 = .ok (.aload_n 0, 1) := by decide +kernel
theorem dX1_init_5 : decode cX1_init 5 = .ok (.bipush 8, 2) := by decide +kernel
theorem dX1_init_7 : decode cX1_init 7 = .ok (.newarray .int, 2) := by decide +kernel
theorem dX1_init_9 : decode cX1_init 9 = .ok (.putfield 9, 3) := by decide +kernel
theorem dX1_init_12 : decode cX1_init 12 = .ok (.aload_n 0, 1) := by decide +kernel
theorem dX1_init_13 : decode cX1_init 13 = .ok (.sipush 160, 3) := by decide +kernel
theorem dX1_init_16 : decode cX1_init 16 = .ok (.newarray .int, 2) := by decide +kernel
theorem dX1_init_18 : decode cX1_init 18 = .ok (.putfield 15, 3) := by decide +kernel
theorem dX1_init_21 : decode cX1_init 21 = .ok (.aload_n 0, 1) := by decide +kernel
theorem dX1_init_22 : decode cX1_init 22 = .ok (.sipush 248, 3) := by decide +kernel
theorem dX1_init_25 : decode cX1_init 25 = .ok (.newarray .long, 2) := by decide +kernel
theorem dX1_init_27 : decode cX1_init 27 = .ok (.putfield 18, 3) := by decide +kernel
theorem dX1_init_30 : decode cX1_init 30 = .ok (.return_, 1) := by decide +kernel
theorem dX1_tell_0 : decode cX1_tell 0 = .ok (.aload_n 2, 1) := by decide +kernel
theorem dX1_tell_1 : decode cX1_tell 1 = .ok (.iconst 0, 1) := by decide +kernel
theorem dX1_tell_2 : decode cX1_tell 2 = .ok (.aload_n 0, 1) := by decide +kernel
theorem dX1_tell_3 : decode cX1_tell 3 = .ok (.getfield 15, 3) := by decide +kernel
theorem dX1_tell_6 : decode cX1_tell 6 = .ok (.iload_n 1, 1) := by decide +kernel
theorem dX1_tell_7 : decode cX1_tell 7 = .ok (.bipush 20, 2) := by decide +kernel
theorem dX1_tell_9 : decode cX1_tell 9 = .ok (.imul, 1) := by decide +kernel
theorem dX1_tell_10 : decode cX1_tell 10 = .ok (.iload_n 3, 1) := by decide +kernel
theorem dX1_tell_11 : decode cX1_tell 11 = .ok (.invokestatic 22, 3) := by decide +kernel
theorem dX1_tell_14 : decode cX1_tell 14 = .ok (.aload_n 0, 1) := by decide +kernel
theorem dX1_tell_15 : decode cX1_tell 15 = .ok (.getfield 9, 3) := by decide +kernel
theorem dX1_tell_18 : decode cX1_tell 18 = .ok (.iload_n 1, 1) := by decide +kernel
theorem dX1_tell_19 : decode cX1_tell 19 = .ok (.iload_n 3, 1) := by decide +kernel
theorem dX1_tell_20 : decode cX1_tell 20 = .ok (.iastore, 1) := by decide +kernel
theorem dX1_tell_21 : decode cX1_tell 21 = .ok (.return_, 1) := by decide +kernel
theorem dX1_sizeFor_0 : decode cX1_sizeFor 0 = .ok (.aload_n 0, 1) := by decide +kernel
theorem dX1_sizeFor_1 : decode cX1_sizeFor 1 = .ok (.getfield 9, 3) := by decide +kernel
theorem dX1_sizeFor_4 : decode cX1_sizeFor 4 = .ok (.iload_n 1, 1) := by decide +kernel
theorem dX1_sizeFor_5 : decode cX1_sizeFor 5 = .ok (.iaload, 1) := by decide +kernel
theorem dX1_sizeFor_6 : decode cX1_sizeFor 6 = .ok (.ireturn, 1) := by decide +kernel
theorem dX1_measure_0 : decode cX1_measure 0 = .ok (.aload_n 0, 1) := by decide +kernel
theorem dX1_measure_1 : decode cX1_measure 1 = .ok (.getfield 18, 3) := by decide +kernel
theorem dX1_measure_4 : decode cX1_measure 4 = .ok (.iconst 0, 1) := by decide +kernel
theorem dX1_measure_5 : decode cX1_measure 5 = .ok (.bipush 8, 2) := by decide +kernel
theorem dX1_measure_7 : decode cX1_measure 7 = .ok (.lconst 1, 1) := by decide +kernel
theorem dX1_measure_8 : decode cX1_measure 8 = .ok (.invokestatic 28, 3) := by decide +kernel
theorem dX1_measure_11 : decode cX1_measure 11 = .ok (.iconst 1, 1) := by decide +kernel
theorem dX1_measure_12 : decode cX1_measure 12 = .ok (.istore_n 1, 1) := by decide +kernel
theorem dX1_measure_13 : decode cX1_measure 13 = .ok (.iload_n 1, 1) := by decide +kernel
theorem dX1_measure_14 : decode cX1_measure 14 = .ok (.bipush 31, 2) := by decide +kernel
theorem dX1_measure_16 : decode cX1_measure 16 = .ok (.if_icmp .ge 50, 3) := by decide +kernel
theorem dX1_measure_19 : decode cX1_measure 19 = .ok (.iconst 0, 1) := by decide +kernel
theorem dX1_measure_20 : decode cX1_measure 20 = .ok (.istore_n 2, 1) := by decide +kernel
theorem dX1_measure_21 : decode cX1_measure 21 = .ok (.iload_n 2, 1) := by decide +kernel
theorem dX1_measure_22 : decode cX1_measure 22 = .ok (.aload_n 0, 1) := by decide +kernel
theorem dX1_measure_23 : decode cX1_measure 23 = .ok (.getfield 34, 3) := by decide +kernel
theorem dX1_measure_26 : decode cX1_measure 26 = .ok (.if_icmp .ge 34, 3) := by decide +kernel
theorem dX1_measure_29 : decode cX1_measure 29 = .ok (.aload_n 0, 1) := by decide +kernel
theorem dX1_measure_30 : decode cX1_measure 30 = .ok (.getfield 18, 3) := by decide +kernel
theorem dX1_measure_33 : decode cX1_measure 33 = .ok (.iload_n 1, 1) := by decide +kernel
theorem dX1_measure_34 : decode cX1_measure 34 = .ok (.bipush 8, 2) := by decide +kernel
theorem dX1_measure_36 : decode cX1_measure 36 = .ok (.imul, 1) := by decide +kernel
theorem dX1_measure_37 : decode cX1_measure 37 = .ok (.iload_n 2, 1) := by decide +kernel
theorem dX1_measure_38 : decode cX1_measure 38 = .ok (.iadd, 1) := by decide +kernel
theorem dX1_measure_39 : decode cX1_measure 39 = .ok (.ldc2_w 38, 3) := by decide +kernel
theorem dX1_measure_42 : decode cX1_measure 42 = .ok (.aload_n 0, 1) := by decide +kernel
theorem dX1_measure_43 : decode cX1_measure 43 = .ok (.iload_n 1, 1) := by decide +kernel
theorem dX1_measure_44 : decode cX1_measure 44 = .ok (.iconst 1, 1) := by decide +kernel
theorem dX1_measure_45 : decode cX1_measure 45 = .ok (.isub, 1) := by decide +kernel
theorem dX1_measure_46 : decode cX1_measure 46 = .ok (.iload_n 2, 1) := by decide +kernel
theorem dX1_measure_47 : decode cX1_measure 47 = .ok (.invokevirtual 40, 3) := by decide +kernel
theorem dX1_measure_50 : decode cX1_measure 50 = .ok (.invokestatic 44, 3) := by decide +kernel
theorem dX1_measure_53 : decode cX1_measure 53 = .ok (.lastore, 1) := by decide +kernel
theorem dX1_measure_54 : decode cX1_measure 54 = .ok (.iinc 2 1, 3) := by decide +kernel
theorem dX1_measure_57 : decode cX1_measure 57 = .ok (.goto (-36), 3) := by decide +kernel
theorem dX1_measure_60 : decode cX1_measure 60 = .ok (.iinc 1 1, 3) := by decide +kernel
theorem dX1_measure_63 : decode cX1_measure 63 = .ok (.goto (-50), 3) := by decide +kernel
theorem dX1_measure_66 : decode cX1_measure 66 = .ok (.return_, 1) := by decide +kernel
theorem dX1_imageSize_0 : decode cX1_imageSize 0 = .ok (.lconst 0, 1) := by decide +kernel
theorem dX1_imageSize_1 : decode cX1_imageSize 1 = .ok (.lstore_n 3, 1) := by decide +kernel
theorem dX1_imageSize_2 : decode cX1_imageSize 2 = .ok (.iconst 0, 1) := by decide +kernel
theorem dX1_imageSize_3 : decode cX1_imageSize 3 = .ok (.istore 5, 2) := by decide +kernel
theorem dX1_imageSize_5 : decode cX1_imageSize 5 = .ok (.iload 5, 2) := by decide +kernel
theorem dX1_imageSize_7 : decode cX1_imageSize 7 = .ok (.aload_n 0, 1) := by decide +kernel
theorem dX1_imageSize_8 : decode cX1_imageSize 8 = .ok (.getfield 9, 3) := by decide +kernel
theorem dX1_imageSize_11 : decode cX1_imageSize 11 = .ok (.iload_n 2, 1) := by decide +kernel
theorem dX1_imageSize_12 : decode cX1_imageSize 12 = .ok (.iaload, 1) := by decide +kernel
theorem dX1_imageSize_13 : decode cX1_imageSize 13 = .ok (.if_icmp .ge 34, 3) := by decide +kernel
theorem dX1_imageSize_16 : decode cX1_imageSize 16 = .ok (.lload_n 3, 1) := by decide +kernel
theorem dX1_imageSize_17 : decode cX1_imageSize 17 = .ok (.aload_n 0, 1) := by decide +kernel
theorem dX1_imageSize_18 : decode cX1_imageSize 18 = .ok (.getfield 18, 3) := by decide +kernel
theorem dX1_imageSize_21 : decode cX1_imageSize 21 = .ok (.iload_n 1, 1) := by decide +kernel
theorem dX1_imageSize_22 : decode cX1_imageSize 22 = .ok (.bipush 8, 2) := by decide +kernel
theorem dX1_imageSize_24 : decode cX1_imageSize 24 = .ok (.imul, 1) := by decide +kernel
theorem dX1_imageSize_25 : decode cX1_imageSize 25 = .ok (.aload_n 0, 1) := by decide +kernel
theorem dX1_imageSize_26 : decode cX1_imageSize 26 = .ok (.getfield 15, 3) := by decide +kernel
theorem dX1_imageSize_29 : decode cX1_imageSize 29 = .ok (.iload_n 2, 1) := by decide +kernel
theorem dX1_imageSize_30 : decode cX1_imageSize 30 = .ok (.bipush 20, 2) := by decide +kernel
theorem dX1_imageSize_32 : decode cX1_imageSize 32 = .ok (.imul, 1) := by decide +kernel
theorem dX1_imageSize_33 : decode cX1_imageSize 33 = .ok (.iload 5, 2) := by decide +kernel
theorem dX1_imageSize_35 : decode cX1_imageSize 35 = .ok (.iadd, 1) := by decide +kernel
theorem dX1_imageSize_36 : decode cX1_imageSize 36 = .ok (.iaload, 1) := by decide +kernel
theorem dX1_imageSize_37 : decode cX1_imageSize 37 = .ok (.iadd, 1) := by decide +kernel
theorem dX1_imageSize_38 : decode cX1_imageSize 38 = .ok (.laload, 1) := by decide +kernel
theorem dX1_imageSize_39 : decode cX1_imageSize 39 = .ok (.ladd, 1) := by decide +kernel
theorem dX1_imageSize_40 : decode cX1_imageSize 40 = .ok (.lstore_n 3, 1) := by decide +kernel
theorem dX1_imageSize_41 : decode cX1_imageSize 41 = .ok (.iinc 5 1, 3) := by decide +kernel
theorem dX1_imageSize_44 : decode cX1_imageSize 44 = .ok (.goto (-39), 3) := by decide +kernel
theorem dX1_imageSize_47 : decode cX1_imageSize 47 = .ok (.lload_n 3, 1) := by decide +kernel
theorem dX1_imageSize_48 : decode cX1_imageSize 48 = .ok (.lreturn, 1) := by decide +kernel
theorem dX1_imageInto_0 : decode cX1_imageInto 0 = .ok (.iconst 0, 1) := by decide +kernel
theorem dX1_imageInto_1 : decode cX1_imageInto 1 = .ok (.istore 4, 2) := by decide +kernel
theorem dX1_imageInto_3 : decode cX1_imageInto 3 = .ok (.iconst 0, 1) := by decide +kernel
theorem dX1_imageInto_4 : decode cX1_imageInto 4 = .ok (.istore 5, 2) := by decide +kernel
theorem dX1_imageInto_6 : decode cX1_imageInto 6 = .ok (.iload 5, 2) := by decide +kernel
theorem dX1_imageInto_8 : decode cX1_imageInto 8 = .ok (.iload_n 2, 1) := by decide +kernel
theorem dX1_imageInto_9 : decode cX1_imageInto 9 = .ok (.if_icmp .ge 66, 3) := by decide +kernel
theorem dX1_imageInto_12 : decode cX1_imageInto 12 = .ok (.aload_n 1, 1) := by decide +kernel
theorem dX1_imageInto_13 : decode cX1_imageInto 13 = .ok (.iload 5, 2) := by decide +kernel
theorem dX1_imageInto_15 : decode cX1_imageInto 15 = .ok (.iaload, 1) := by decide +kernel
theorem dX1_imageInto_16 : decode cX1_imageInto 16 = .ok (.istore 6, 2) := by decide +kernel
theorem dX1_imageInto_18 : decode cX1_imageInto 18 = .ok (.iload 4, 2) := by decide +kernel
theorem dX1_imageInto_20 : decode cX1_imageInto 20 = .ok (.aload_n 0, 1) := by decide +kernel
theorem dX1_imageInto_21 : decode cX1_imageInto 21 = .ok (.getfield 9, 3) := by decide +kernel
theorem dX1_imageInto_24 : decode cX1_imageInto 24 = .ok (.iload 6, 2) := by decide +kernel
theorem dX1_imageInto_26 : decode cX1_imageInto 26 = .ok (.iaload, 1) := by decide +kernel
theorem dX1_imageInto_27 : decode cX1_imageInto 27 = .ok (.iadd, 1) := by decide +kernel
theorem dX1_imageInto_28 : decode cX1_imageInto 28 = .ok (.aload_n 3, 1) := by decide +kernel
theorem dX1_imageInto_29 : decode cX1_imageInto 29 = .ok (.arraylength, 1) := by decide +kernel
theorem dX1_imageInto_30 : decode cX1_imageInto 30 = .ok (.if_icmp .le 5, 3) := by decide +kernel
theorem dX1_imageInto_33 : decode cX1_imageInto 33 = .ok (.iconst (-1), 1) := by decide +kernel
theorem dX1_imageInto_34 : decode cX1_imageInto 34 = .ok (.ireturn, 1) := by decide +kernel
theorem dX1_imageInto_35 : decode cX1_imageInto 35 = .ok (.aload_n 0, 1) := by decide +kernel
theorem dX1_imageInto_36 : decode cX1_imageInto 36 = .ok (.getfield 15, 3) := by decide +kernel
theorem dX1_imageInto_39 : decode cX1_imageInto 39 = .ok (.iload 6, 2) := by decide +kernel
theorem dX1_imageInto_41 : decode cX1_imageInto 41 = .ok (.bipush 20, 2) := by decide +kernel
theorem dX1_imageInto_43 : decode cX1_imageInto 43 = .ok (.imul, 1) := by decide +kernel
theorem dX1_imageInto_44 : decode cX1_imageInto 44 = .ok (.aload_n 3, 1) := by decide +kernel
theorem dX1_imageInto_45 : decode cX1_imageInto 45 = .ok (.iload 4, 2) := by decide +kernel
theorem dX1_imageInto_47 : decode cX1_imageInto 47 = .ok (.aload_n 0, 1) := by decide +kernel
theorem dX1_imageInto_48 : decode cX1_imageInto 48 = .ok (.getfield 9, 3) := by decide +kernel
theorem dX1_imageInto_51 : decode cX1_imageInto 51 = .ok (.iload 6, 2) := by decide +kernel
theorem dX1_imageInto_53 : decode cX1_imageInto 53 = .ok (.iaload, 1) := by decide +kernel
theorem dX1_imageInto_54 : decode cX1_imageInto 54 = .ok (.invokestatic 22, 3) := by decide +kernel
theorem dX1_imageInto_57 : decode cX1_imageInto 57 = .ok (.iload 4, 2) := by decide +kernel
theorem dX1_imageInto_59 : decode cX1_imageInto 59 = .ok (.aload_n 0, 1) := by decide +kernel
theorem dX1_imageInto_60 : decode cX1_imageInto 60 = .ok (.getfield 9, 3) := by decide +kernel
theorem dX1_imageInto_63 : decode cX1_imageInto 63 = .ok (.iload 6, 2) := by decide +kernel
theorem dX1_imageInto_65 : decode cX1_imageInto 65 = .ok (.iaload, 1) := by decide +kernel
theorem dX1_imageInto_66 : decode cX1_imageInto 66 = .ok (.iadd, 1) := by decide +kernel
theorem dX1_imageInto_67 : decode cX1_imageInto 67 = .ok (.istore 4, 2) := by decide +kernel
theorem dX1_imageInto_69 : decode cX1_imageInto 69 = .ok (.iinc 5 1, 3) := by decide +kernel
theorem dX1_imageInto_72 : decode cX1_imageInto 72 = .ok (.goto (-66), 3) := by decide +kernel
theorem dX1_imageInto_75 : decode cX1_imageInto 75 = .ok (.iload 4, 2) := by decide +kernel
theorem dX1_imageInto_77 : decode cX1_imageInto 77 = .ok (.ireturn, 1) := by decide +kernel
theorem dX1_lengthsToLookAt_0 : decode cX1_lengthsToLookAt 0 = .ok (.iconst 1, 1) := by decide +kernel
theorem dX1_lengthsToLookAt_1 : decode cX1_lengthsToLookAt 1 = .ok (.istore_n 1, 1) := by decide +kernel
theorem dX1_lengthsToLookAt_2 : decode cX1_lengthsToLookAt 2 = .ok (.bipush 20, 2) := by decide +kernel
theorem dX1_lengthsToLookAt_4 : decode cX1_lengthsToLookAt 4 = .ok (.istore_n 2, 1) := by decide +kernel
theorem dX1_lengthsToLookAt_5 : decode cX1_lengthsToLookAt 5 = .ok (.iconst 0, 1) := by decide +kernel
theorem dX1_lengthsToLookAt_6 : decode cX1_lengthsToLookAt 6 = .ok (.istore_n 3, 1) := by decide +kernel
theorem dX1_lengthsToLookAt_7 : decode cX1_lengthsToLookAt 7 = .ok (.iload_n 3, 1) := by decide +kernel
theorem dX1_lengthsToLookAt_8 : decode cX1_lengthsToLookAt 8 = .ok (.aload_n 0, 1) := by decide +kernel
theorem dX1_lengthsToLookAt_9 : decode cX1_lengthsToLookAt 9 = .ok (.getfield 34, 3) := by decide +kernel
theorem dX1_lengthsToLookAt_12 : decode cX1_lengthsToLookAt 12 = .ok (.if_icmp .ge 31, 3) := by decide +kernel
theorem dX1_lengthsToLookAt_15 : decode cX1_lengthsToLookAt 15 = .ok (.iload_n 1, 1) := by decide +kernel
theorem dX1_lengthsToLookAt_16 : decode cX1_lengthsToLookAt 16 = .ok (.aload_n 0, 1) := by decide +kernel
theorem dX1_lengthsToLookAt_17 : decode cX1_lengthsToLookAt 17 = .ok (.getfield 9, 3) := by decide +kernel
theorem dX1_lengthsToLookAt_20 : decode cX1_lengthsToLookAt 20 = .ok (.iload_n 3, 1) := by decide +kernel
theorem dX1_lengthsToLookAt_21 : decode cX1_lengthsToLookAt 21 = .ok (.iaload, 1) := by decide +kernel
theorem dX1_lengthsToLookAt_22 : decode cX1_lengthsToLookAt 22 = .ok (.invokestatic 50, 3) := by decide +kernel
theorem dX1_lengthsToLookAt_25 : decode cX1_lengthsToLookAt 25 = .ok (.istore_n 1, 1) := by decide +kernel
theorem dX1_lengthsToLookAt_26 : decode cX1_lengthsToLookAt 26 = .ok (.iload_n 2, 1) := by decide +kernel
theorem dX1_lengthsToLookAt_27 : decode cX1_lengthsToLookAt 27 = .ok (.aload_n 0, 1) := by decide +kernel
theorem dX1_lengthsToLookAt_28 : decode cX1_lengthsToLookAt 28 = .ok (.getfield 9, 3) := by decide +kernel
theorem dX1_lengthsToLookAt_31 : decode cX1_lengthsToLookAt 31 = .ok (.iload_n 3, 1) := by decide +kernel
theorem dX1_lengthsToLookAt_32 : decode cX1_lengthsToLookAt 32 = .ok (.iaload, 1) := by decide +kernel
theorem dX1_lengthsToLookAt_33 : decode cX1_lengthsToLookAt 33 = .ok (.invokestatic 54, 3) := by decide +kernel
theorem dX1_lengthsToLookAt_36 : decode cX1_lengthsToLookAt 36 = .ok (.istore_n 2, 1) := by decide +kernel
theorem dX1_lengthsToLookAt_37 : decode cX1_lengthsToLookAt 37 = .ok (.iinc 3 1, 3) := by decide +kernel
theorem dX1_lengthsToLookAt_40 : decode cX1_lengthsToLookAt 40 = .ok (.goto (-33), 3) := by decide +kernel
theorem dX1_lengthsToLookAt_43 : decode cX1_lengthsToLookAt 43 = .ok (.iload_n 2, 1) := by decide +kernel
theorem dX1_lengthsToLookAt_44 : decode cX1_lengthsToLookAt 44 = .ok (.iconst 1, 1) := by decide +kernel
theorem dX1_lengthsToLookAt_45 : decode cX1_lengthsToLookAt 45 = .ok (.if_icmp .ge 7, 3) := by decide +kernel
theorem dX1_lengthsToLookAt_48 : decode cX1_lengthsToLookAt 48 = .ok (.iconst 3, 1) := by decide +kernel
theorem dX1_lengthsToLookAt_49 : decode cX1_lengthsToLookAt 49 = .ok (.goto 18, 3) := by decide +kernel
theorem dX1_lengthsToLookAt_52 : decode cX1_lengthsToLookAt 52 = .ok (.iconst 3, 1) := by decide +kernel
theorem dX1_lengthsToLookAt_53 : decode cX1_lengthsToLookAt 53 = .ok (.iconst 1, 1) := by decide +kernel
theorem dX1_lengthsToLookAt_54 : decode cX1_lengthsToLookAt 54 = .ok (.iload_n 1, 1) := by decide +kernel
theorem dX1_lengthsToLookAt_55 : decode cX1_lengthsToLookAt 55 = .ok (.iconst 3, 1) := by decide +kernel
theorem dX1_lengthsToLookAt_56 : decode cX1_lengthsToLookAt 56 = .ok (.isub, 1) := by decide +kernel
theorem dX1_lengthsToLookAt_57 : decode cX1_lengthsToLookAt 57 = .ok (.iload_n 2, 1) := by decide +kernel
theorem dX1_lengthsToLookAt_58 : decode cX1_lengthsToLookAt 58 = .ok (.iadd, 1) := by decide +kernel
theorem dX1_lengthsToLookAt_59 : decode cX1_lengthsToLookAt 59 = .ok (.iconst 1, 1) := by decide +kernel
theorem dX1_lengthsToLookAt_60 : decode cX1_lengthsToLookAt 60 = .ok (.isub, 1) := by decide +kernel
theorem dX1_lengthsToLookAt_61 : decode cX1_lengthsToLookAt 61 = .ok (.iload_n 2, 1) := by decide +kernel
theorem dX1_lengthsToLookAt_62 : decode cX1_lengthsToLookAt 62 = .ok (.idiv, 1) := by decide +kernel
theorem dX1_lengthsToLookAt_63 : decode cX1_lengthsToLookAt 63 = .ok (.iadd, 1) := by decide +kernel
theorem dX1_lengthsToLookAt_64 : decode cX1_lengthsToLookAt 64 = .ok (.invokestatic 50, 3) := by decide +kernel
theorem dX1_lengthsToLookAt_67 : decode cX1_lengthsToLookAt 67 = .ok (.ireturn, 1) := by decide +kernel
theorem dX1_growsFrom_0 : decode cX1_growsFrom 0 = .ok (.iload_n 1, 1) := by decide +kernel
theorem dX1_growsFrom_1 : decode cX1_growsFrom 1 = .ok (.ifCond .lt 24, 3) := by decide +kernel
theorem dX1_growsFrom_4 : decode cX1_growsFrom 4 = .ok (.iload_n 1, 1) := by decide +kernel
theorem dX1_growsFrom_5 : decode cX1_growsFrom 5 = .ok (.aload_n 0, 1) := by decide +kernel
theorem dX1_growsFrom_6 : decode cX1_growsFrom 6 = .ok (.getfield 34, 3) := by decide +kernel
theorem dX1_growsFrom_9 : decode cX1_growsFrom 9 = .ok (.if_icmp .ge 16, 3) := by decide +kernel
theorem dX1_growsFrom_12 : decode cX1_growsFrom 12 = .ok (.aload_n 0, 1) := by decide +kernel
theorem dX1_growsFrom_13 : decode cX1_growsFrom 13 = .ok (.getfield 15, 3) := by decide +kernel
theorem dX1_growsFrom_16 : decode cX1_growsFrom 16 = .ok (.iload_n 1, 1) := by decide +kernel
theorem dX1_growsFrom_17 : decode cX1_growsFrom 17 = .ok (.bipush 20, 2) := by decide +kernel
theorem dX1_growsFrom_19 : decode cX1_growsFrom 19 = .ok (.imul, 1) := by decide +kernel
theorem dX1_growsFrom_20 : decode cX1_growsFrom 20 = .ok (.iaload, 1) := by decide +kernel
theorem dX1_growsFrom_21 : decode cX1_growsFrom 21 = .ok (.iload_n 1, 1) := by decide +kernel
theorem dX1_growsFrom_22 : decode cX1_growsFrom 22 = .ok (.if_icmp .eq 5, 3) := by decide +kernel
theorem dX1_growsFrom_25 : decode cX1_growsFrom 25 = .ok (.iconst 0, 1) := by decide +kernel
theorem dX1_growsFrom_26 : decode cX1_growsFrom 26 = .ok (.ireturn, 1) := by decide +kernel
theorem dX1_growsFrom_27 : decode cX1_growsFrom 27 = .ok (.iconst 0, 1) := by decide +kernel
theorem dX1_growsFrom_28 : decode cX1_growsFrom 28 = .ok (.istore_n 2, 1) := by decide +kernel
theorem dX1_growsFrom_29 : decode cX1_growsFrom 29 = .ok (.iload_n 2, 1) := by decide +kernel
theorem dX1_growsFrom_30 : decode cX1_growsFrom 30 = .ok (.aload_n 0, 1) := by decide +kernel
theorem dX1_growsFrom_31 : decode cX1_growsFrom 31 = .ok (.getfield 34, 3) := by decide +kernel
theorem dX1_growsFrom_34 : decode cX1_growsFrom 34 = .ok (.if_icmp .ge 21, 3) := by decide +kernel
theorem dX1_growsFrom_37 : decode cX1_growsFrom 37 = .ok (.aload_n 0, 1) := by decide +kernel
theorem dX1_growsFrom_38 : decode cX1_growsFrom 38 = .ok (.getfield 9, 3) := by decide +kernel
theorem dX1_growsFrom_41 : decode cX1_growsFrom 41 = .ok (.iload_n 2, 1) := by decide +kernel
theorem dX1_growsFrom_42 : decode cX1_growsFrom 42 = .ok (.iaload, 1) := by decide +kernel
theorem dX1_growsFrom_43 : decode cX1_growsFrom 43 = .ok (.iconst 2, 1) := by decide +kernel
theorem dX1_growsFrom_44 : decode cX1_growsFrom 44 = .ok (.if_icmp .ge 5, 3) := by decide +kernel
theorem dX1_growsFrom_47 : decode cX1_growsFrom 47 = .ok (.iconst 0, 1) := by decide +kernel
theorem dX1_growsFrom_48 : decode cX1_growsFrom 48 = .ok (.ireturn, 1) := by decide +kernel
theorem dX1_growsFrom_49 : decode cX1_growsFrom 49 = .ok (.iinc 2 1, 3) := by decide +kernel
theorem dX1_growsFrom_52 : decode cX1_growsFrom 52 = .ok (.goto (-23), 3) := by decide +kernel
theorem dX1_growsFrom_55 : decode cX1_growsFrom 55 = .ok (.iconst 1, 1) := by decide +kernel
theorem dX1_growsFrom_56 : decode cX1_growsFrom 56 = .ok (.ireturn, 1) := by decide +kernel
theorem dX1_letterFarOut_0 : decode cX1_letterFarOut 0 = .ok (.iload_n 1, 1) := by decide +kernel
theorem dX1_letterFarOut_1 : decode cX1_letterFarOut 1 = .ok (.istore_n 3, 1) := by decide +kernel
theorem dX1_letterFarOut_2 : decode cX1_letterFarOut 2 = .ok (.iload_n 2, 1) := by decide +kernel
theorem dX1_letterFarOut_3 : decode cX1_letterFarOut 3 = .ok (.i2l, 1) := by decide +kernel
theorem dX1_letterFarOut_4 : decode cX1_letterFarOut 4 = .ok (.lstore 4, 2) := by decide +kernel
theorem dX1_letterFarOut_6 : decode cX1_letterFarOut 6 = .ok (.bipush 30, 2) := by decide +kernel
theorem dX1_letterFarOut_8 : decode cX1_letterFarOut 8 = .ok (.istore 6, 2) := by decide +kernel
theorem dX1_letterFarOut_10 : decode cX1_letterFarOut 10 = .ok (.iload 6, 2) := by decide +kernel
theorem dX1_letterFarOut_12 : decode cX1_letterFarOut 12 = .ok (.ifCond .lt 101, 3) := by decide +kernel
theorem dX1_letterFarOut_15 : decode cX1_letterFarOut 15 = .ok (.iload_n 3, 1) := by decide +kernel
theorem dX1_letterFarOut_16 : decode cX1_letterFarOut 16 = .ok (.bipush 20, 2) := by decide +kernel
theorem dX1_letterFarOut_18 : decode cX1_letterFarOut 18 = .ok (.imul, 1) := by decide +kernel
theorem dX1_letterFarOut_19 : decode cX1_letterFarOut 19 = .ok (.istore 7, 2) := by decide +kernel
theorem dX1_letterFarOut_21 : decode cX1_letterFarOut 21 = .ok (.iconst 0, 1) := by decide +kernel
theorem dX1_letterFarOut_22 : decode cX1_letterFarOut 22 = .ok (.istore 8, 2) := by decide +kernel
theorem dX1_letterFarOut_24 : decode cX1_letterFarOut 24 = .ok (.iload 8, 2) := by decide +kernel
theorem dX1_letterFarOut_26 : decode cX1_letterFarOut 26 = .ok (.aload_n 0, 1) := by decide +kernel
theorem dX1_letterFarOut_27 : decode cX1_letterFarOut 27 = .ok (.getfield 9, 3) := by decide +kernel
theorem dX1_letterFarOut_30 : decode cX1_letterFarOut 30 = .ok (.iload_n 3, 1) := by decide +kernel
theorem dX1_letterFarOut_31 : decode cX1_letterFarOut 31 = .ok (.iaload, 1) := by decide +kernel
theorem dX1_letterFarOut_32 : decode cX1_letterFarOut 32 = .ok (.iconst 1, 1) := by decide +kernel
theorem dX1_letterFarOut_33 : decode cX1_letterFarOut 33 = .ok (.isub, 1) := by decide +kernel
theorem dX1_letterFarOut_34 : decode cX1_letterFarOut 34 = .ok (.if_icmp .ge 62, 3) := by decide +kernel
theorem dX1_letterFarOut_37 : decode cX1_letterFarOut 37 = .ok (.lload 4, 2) := by decide +kernel
theorem dX1_letterFarOut_39 : decode cX1_letterFarOut 39 = .ok (.aload_n 0, 1) := by decide +kernel
theorem dX1_letterFarOut_40 : decode cX1_letterFarOut 40 = .ok (.getfield 18, 3) := by decide +kernel
theorem dX1_letterFarOut_43 : decode cX1_letterFarOut 43 = .ok (.iload 6, 2) := by decide +kernel
theorem dX1_letterFarOut_45 : decode cX1_letterFarOut 45 = .ok (.bipush 8, 2) := by decide +kernel
theorem dX1_letterFarOut_47 : decode cX1_letterFarOut 47 = .ok (.imul, 1) := by decide +kernel
theorem dX1_letterFarOut_48 : decode cX1_letterFarOut 48 = .ok (.aload_n 0, 1) := by decide +kernel
theorem dX1_letterFarOut_49 : decode cX1_letterFarOut 49 = .ok (.getfield 15, 3) := by decide +kernel
theorem dX1_letterFarOut_52 : decode cX1_letterFarOut 52 = .ok (.iload 7, 2) := by decide +kernel
theorem dX1_letterFarOut_54 : decode cX1_letterFarOut 54 = .ok (.iload 8, 2) := by decide +kernel
theorem dX1_letterFarOut_56 : decode cX1_letterFarOut 56 = .ok (.iadd, 1) := by decide +kernel
theorem dX1_letterFarOut_57 : decode cX1_letterFarOut 57 = .ok (.iaload, 1) := by decide +kernel
theorem dX1_letterFarOut_58 : decode cX1_letterFarOut 58 = .ok (.iadd, 1) := by decide +kernel
theorem dX1_letterFarOut_59 : decode cX1_letterFarOut 59 = .ok (.laload, 1) := by decide +kernel
theorem dX1_letterFarOut_60 : decode cX1_letterFarOut 60 = .ok (.lcmp, 1) := by decide +kernel
theorem dX1_letterFarOut_61 : decode cX1_letterFarOut 61 = .ok (.ifCond .lt 35, 3) := by decide +kernel
theorem dX1_letterFarOut_64 : decode cX1_letterFarOut 64 = .ok (.lload 4, 2) := by decide +kernel
theorem dX1_letterFarOut_66 : decode cX1_letterFarOut 66 = .ok (.aload_n 0, 1) := by decide +kernel
theorem dX1_letterFarOut_67 : decode cX1_letterFarOut 67 = .ok (.getfield 18, 3) := by decide +kernel
theorem dX1_letterFarOut_70 : decode cX1_letterFarOut 70 = .ok (.iload 6, 2) := by decide +kernel
theorem dX1_letterFarOut_72 : decode cX1_letterFarOut 72 = .ok (.bipush 8, 2) := by decide +kernel
theorem dX1_letterFarOut_74 : decode cX1_letterFarOut 74 = .ok (.imul, 1) := by decide +kernel
theorem dX1_letterFarOut_75 : decode cX1_letterFarOut 75 = .ok (.aload_n 0, 1) := by decide +kernel
theorem dX1_letterFarOut_76 : decode cX1_letterFarOut 76 = .ok (.getfield 15, 3) := by decide +kernel
theorem dX1_letterFarOut_79 : decode cX1_letterFarOut 79 = .ok (.iload 7, 2) := by decide +kernel
theorem dX1_letterFarOut_81 : decode cX1_letterFarOut 81 = .ok (.iload 8, 2) := by decide +kernel
theorem dX1_letterFarOut_83 : decode cX1_letterFarOut 83 = .ok (.iadd, 1) := by decide +kernel
theorem dX1_letterFarOut_84 : decode cX1_letterFarOut 84 = .ok (.iaload, 1) := by decide +kernel
theorem dX1_letterFarOut_85 : decode cX1_letterFarOut 85 = .ok (.iadd, 1) := by decide +kernel
theorem dX1_letterFarOut_86 : decode cX1_letterFarOut 86 = .ok (.laload, 1) := by decide +kernel
theorem dX1_letterFarOut_87 : decode cX1_letterFarOut 87 = .ok (.lsub, 1) := by decide +kernel
theorem dX1_letterFarOut_88 : decode cX1_letterFarOut 88 = .ok (.lstore 4, 2) := by decide +kernel
theorem dX1_letterFarOut_90 : decode cX1_letterFarOut 90 = .ok (.iinc 8 1, 3) := by decide +kernel
theorem dX1_letterFarOut_93 : decode cX1_letterFarOut 93 = .ok (.goto (-69), 3) := by decide +kernel
theorem dX1_letterFarOut_96 : decode cX1_letterFarOut 96 = .ok (.aload_n 0, 1) := by decide +kernel
theorem dX1_letterFarOut_97 : decode cX1_letterFarOut 97 = .ok (.getfield 15, 3) := by decide +kernel
theorem dX1_letterFarOut_100 : decode cX1_letterFarOut 100 = .ok (.iload 7, 2) := by decide +kernel
theorem dX1_letterFarOut_102 : decode cX1_letterFarOut 102 = .ok (.iload 8, 2) := by decide +kernel
theorem dX1_letterFarOut_104 : decode cX1_letterFarOut 104 = .ok (.iadd, 1) := by decide +kernel
theorem dX1_letterFarOut_105 : decode cX1_letterFarOut 105 = .ok (.iaload, 1) := by decide +kernel
theorem dX1_letterFarOut_106 : decode cX1_letterFarOut 106 = .ok (.istore_n 3, 1) := by decide +kernel
theorem dX1_letterFarOut_107 : decode cX1_letterFarOut 107 = .ok (.iinc 6 (-1), 3) := by decide +kernel
theorem dX1_letterFarOut_110 : decode cX1_letterFarOut 110 = .ok (.goto (-100), 3) := by decide +kernel
theorem dX1_letterFarOut_113 : decode cX1_letterFarOut 113 = .ok (.iload_n 3, 1) := by decide +kernel
theorem dX1_letterFarOut_114 : decode cX1_letterFarOut 114 = .ok (.ireturn, 1) := by decide +kernel
theorem dX2_init_0 : decode cX2_init 0 = .ok (.aload_n 0, 1) := by decide +kernel
theorem dX2_init_1 : decode cX2_init 1 = .ok (.invokespecial 1, 3) := by decide +kernel
theorem dX2_init_4 : decode cX2_init 4 = .ok (.aload_n 0, 1) := by decide +kernel
theorem dX2_init_5 : decode cX2_init 5 = .ok (.iload_n 1, 1) := by decide +kernel
theorem dX2_init_6 : decode cX2_init 6 = .ok (.putfield 7, 3) := by decide +kernel
theorem dX2_init_9 : decode cX2_init 9 = .ok (.return_, 1) := by decide +kernel
theorem dX2_shortest_0 : decode cX2_shortest 0 = .ok (.iconst 1, 1) := by decide +kernel
theorem dX2_shortest_1 : decode cX2_shortest 1 = .ok (.istore_n 3, 1) := by decide +kernel
theorem dX2_shortest_2 : decode cX2_shortest 2 = .ok (.iconst 2, 1) := by decide +kernel
theorem dX2_shortest_3 : decode cX2_shortest 3 = .ok (.iload_n 3, 1) := by decide +kernel
theorem dX2_shortest_4 : decode cX2_shortest 4 = .ok (.imul, 1) := by decide +kernel
theorem dX2_shortest_5 : decode cX2_shortest 5 = .ok (.iload_n 2, 1) := by decide +kernel
theorem dX2_shortest_6 : decode cX2_shortest 6 = .ok (.if_icmp .gt 23, 3) := by decide +kernel
theorem dX2_shortest_9 : decode cX2_shortest 9 = .ok (.aload_n 0, 1) := by decide +kernel
theorem dX2_shortest_10 : decode cX2_shortest 10 = .ok (.aload_n 1, 1) := by decide +kernel
theorem dX2_shortest_11 : decode cX2_shortest 11 = .ok (.iload_n 2, 1) := by decide +kernel
theorem dX2_shortest_12 : decode cX2_shortest 12 = .ok (.iload_n 3, 1) := by decide +kernel
theorem dX2_shortest_13 : decode cX2_shortest 13 = .ok (.invokevirtual 13, 3) := by decide +kernel
theorem dX2_shortest_16 : decode cX2_shortest 16 = .ok (.ifCond .eq 7, 3) := by decide +kernel
theorem dX2_shortest_19 : decode cX2_shortest 19 = .ok (.iconst 2, 1) := by decide +kernel
theorem dX2_shortest_20 : decode cX2_shortest 20 = .ok (.iload_n 3, 1) := by decide +kernel
theorem dX2_shortest_21 : decode cX2_shortest 21 = .ok (.imul, 1) := by decide +kernel
theorem dX2_shortest_22 : decode cX2_shortest 22 = .ok (.ireturn, 1) := by decide +kernel
theorem dX2_shortest_23 : decode cX2_shortest 23 = .ok (.iinc 3 1, 3) := by decide +kernel
theorem dX2_shortest_26 : decode cX2_shortest 26 = .ok (.goto (-24), 3) := by decide +kernel
theorem dX2_shortest_29 : decode cX2_shortest 29 = .ok (.iconst 0, 1) := by decide +kernel
theorem dX2_shortest_30 : decode cX2_shortest 30 = .ok (.ireturn, 1) := by decide +kernel
theorem dX2_isNear_0 : decode cX2_isNear 0 = .ok (.aload_n 0, 1) := by decide +kernel
theorem dX2_isNear_1 : decode cX2_isNear 1 = .ok (.getfield 7, 3) := by decide +kernel
theorem dX2_isNear_4 : decode cX2_isNear 4 = .ok (.iload_n 3, 1) := by decide +kernel
theorem dX2_isNear_5 : decode cX2_isNear 5 = .ok (.iconst 1, 1) := by decide +kernel
theorem dX2_isNear_6 : decode cX2_isNear 6 = .ok (.isub, 1) := by decide +kernel
theorem dX2_isNear_7 : decode cX2_isNear 7 = .ok (.invokestatic 17, 3) := by decide +kernel
theorem dX2_isNear_10 : decode cX2_isNear 10 = .ok (.istore 4, 2) := by decide +kernel
theorem dX2_isNear_12 : decode cX2_isNear 12 = .ok (.iconst 1, 1) := by decide +kernel
theorem dX2_isNear_13 : decode cX2_isNear 13 = .ok (.istore 5, 2) := by decide +kernel
theorem dX2_isNear_15 : decode cX2_isNear 15 = .ok (.iload 5, 2) := by decide +kernel
theorem dX2_isNear_17 : decode cX2_isNear 17 = .ok (.iload_n 3, 1) := by decide +kernel
theorem dX2_isNear_18 : decode cX2_isNear 18 = .ok (.if_icmp .gt 34, 3) := by decide +kernel
theorem dX2_isNear_21 : decode cX2_isNear 21 = .ok (.iload 4, 2) := by decide +kernel
theorem dX2_isNear_23 : decode cX2_isNear 23 = .ok (.ifCond .lt 29, 3) := by decide +kernel
theorem dX2_isNear_26 : decode cX2_isNear 26 = .ok (.aload_n 1, 1) := by decide +kernel
theorem dX2_isNear_27 : decode cX2_isNear 27 = .ok (.iload_n 2, 1) := by decide +kernel
theorem dX2_isNear_28 : decode cX2_isNear 28 = .ok (.iload 5, 2) := by decide +kernel
theorem dX2_isNear_30 : decode cX2_isNear 30 = .ok (.isub, 1) := by decide +kernel
theorem dX2_isNear_31 : decode cX2_isNear 31 = .ok (.iaload, 1) := by decide +kernel
theorem dX2_isNear_32 : decode cX2_isNear 32 = .ok (.aload_n 1, 1) := by decide +kernel
theorem dX2_isNear_33 : decode cX2_isNear 33 = .ok (.iload_n 2, 1) := by decide +kernel
theorem dX2_isNear_34 : decode cX2_isNear 34 = .ok (.iload_n 3, 1) := by decide +kernel
theorem dX2_isNear_35 : decode cX2_isNear 35 = .ok (.isub, 1) := by decide +kernel
theorem dX2_isNear_36 : decode cX2_isNear 36 = .ok (.iload 5, 2) := by decide +kernel
theorem dX2_isNear_38 : decode cX2_isNear 38 = .ok (.isub, 1) := by decide +kernel
theorem dX2_isNear_39 : decode cX2_isNear 39 = .ok (.iaload, 1) := by decide +kernel
theorem dX2_isNear_40 : decode cX2_isNear 40 = .ok (.if_icmp .eq 6, 3) := by decide +kernel
theorem dX2_isNear_43 : decode cX2_isNear 43 = .ok (.iinc 4 (-1), 3) := by decide +kernel
theorem dX2_isNear_46 : decode cX2_isNear 46 = .ok (.iinc 5 1, 3) := by decide +kernel
theorem dX2_isNear_49 : decode cX2_isNear 49 = .ok (.goto (-34), 3) := by decide +kernel
theorem dX2_isNear_52 : decode cX2_isNear 52 = .ok (.iload 4, 2) := by decide +kernel
theorem dX2_isNear_54 : decode cX2_isNear 54 = .ok (.ifCond .lt 7, 3) := by decide +kernel
theorem dX2_isNear_57 : decode cX2_isNear 57 = .ok (.iconst 1, 1) := by decide +kernel
theorem dX2_isNear_58 : decode cX2_isNear 58 = .ok (.goto 4, 3) := by decide +kernel
theorem dX2_isNear_61 : decode cX2_isNear 61 = .ok (.iconst 0, 1) := by decide +kernel
theorem dX2_isNear_62 : decode cX2_isNear 62 = .ok (.ireturn, 1) := by decide +kernel
theorem dX3_init_0 : decode cX3_init 0 = .ok (.aload_n 0, 1) := by decide +kernel
theorem dX3_init_1 : decode cX3_init 1 = .ok (.invokespecial 1, 3) := by decide +kernel
theorem dX3_init_4 : decode cX3_init 4 = .ok (.aload_n 0, 1) := by decide +kernel
theorem dX3_init_5 : decode cX3_init 5 = .ok (.iload_n 1, 1) := by decide +kernel
theorem dX3_init_6 : decode cX3_init 6 = .ok (.putfield 7, 3) := by decide +kernel
theorem dX3_init_9 : decode cX3_init 9 = .ok (.aload_n 0, 1) := by decide +kernel
theorem dX3_init_10 : decode cX3_init 10 = .ok (.iload_n 2, 1) := by decide +kernel
theorem dX3_init_11 : decode cX3_init 11 = .ok (.putfield 13, 3) := by decide +kernel
theorem dX3_init_14 : decode cX3_init 14 = .ok (.aload_n 0, 1) := by decide +kernel
theorem dX3_init_15 : decode cX3_init 15 = .ok (.iload_n 3, 1) := by decide +kernel
theorem dX3_init_16 : decode cX3_init 16 = .ok (.putfield 16, 3) := by decide +kernel
theorem dX3_init_19 : decode cX3_init 19 = .ok (.return_, 1) := by decide +kernel
theorem dX3_shortest_0 : decode cX3_shortest 0 = .ok (.iconst 1, 1) := by decide +kernel
theorem dX3_shortest_1 : decode cX3_shortest 1 = .ok (.istore_n 3, 1) := by decide +kernel
theorem dX3_shortest_2 : decode cX3_shortest 2 = .ok (.iload_n 3, 1) := by decide +kernel
theorem dX3_shortest_3 : decode cX3_shortest 3 = .ok (.iload_n 2, 1) := by decide +kernel
theorem dX3_shortest_4 : decode cX3_shortest 4 = .ok (.if_icmp .ge 94, 3) := by decide +kernel
theorem dX3_shortest_7 : decode cX3_shortest 7 = .ok (.iload_n 3, 1) := by decide +kernel
theorem dX3_shortest_8 : decode cX3_shortest 8 = .ok (.aload_n 0, 1) := by decide +kernel
theorem dX3_shortest_9 : decode cX3_shortest 9 = .ok (.getfield 7, 3) := by decide +kernel
theorem dX3_shortest_12 : decode cX3_shortest 12 = .ok (.imul, 1) := by decide +kernel
theorem dX3_shortest_13 : decode cX3_shortest 13 = .ok (.iload_n 2, 1) := by decide +kernel
theorem dX3_shortest_14 : decode cX3_shortest 14 = .ok (.aload_n 0, 1) := by decide +kernel
theorem dX3_shortest_15 : decode cX3_shortest 15 = .ok (.getfield 13, 3) := by decide +kernel
theorem dX3_shortest_18 : decode cX3_shortest 18 = .ok (.imul, 1) := by decide +kernel
theorem dX3_shortest_19 : decode cX3_shortest 19 = .ok (.if_icmp .gt 79, 3) := by decide +kernel
theorem dX3_shortest_22 : decode cX3_shortest 22 = .ok (.iload_n 3, 1) := by decide +kernel
theorem dX3_shortest_23 : decode cX3_shortest 23 = .ok (.iconst 1, 1) := by decide +kernel
theorem dX3_shortest_24 : decode cX3_shortest 24 = .ok (.iadd, 1) := by decide +kernel
theorem dX3_shortest_25 : decode cX3_shortest 25 = .ok (.istore 4, 2) := by decide +kernel
theorem dX3_shortest_27 : decode cX3_shortest 27 = .ok (.iload 4, 2) := by decide +kernel
theorem dX3_shortest_29 : decode cX3_shortest 29 = .ok (.iload_n 2, 1) := by decide +kernel
theorem dX3_shortest_30 : decode cX3_shortest 30 = .ok (.if_icmp .gt 62, 3) := by decide +kernel
theorem dX3_shortest_33 : decode cX3_shortest 33 = .ok (.aload_n 1, 1) := by decide +kernel
theorem dX3_shortest_34 : decode cX3_shortest 34 = .ok (.iload_n 2, 1) := by decide +kernel
theorem dX3_shortest_35 : decode cX3_shortest 35 = .ok (.iload 4, 2) := by decide +kernel
theorem dX3_shortest_37 : decode cX3_shortest 37 = .ok (.isub, 1) := by decide +kernel
theorem dX3_shortest_38 : decode cX3_shortest 38 = .ok (.iaload, 1) := by decide +kernel
theorem dX3_shortest_39 : decode cX3_shortest 39 = .ok (.aload_n 1, 1) := by decide +kernel
theorem dX3_shortest_40 : decode cX3_shortest 40 = .ok (.iload_n 2, 1) := by decide +kernel
theorem dX3_shortest_41 : decode cX3_shortest 41 = .ok (.iload 4, 2) := by decide +kernel
theorem dX3_shortest_43 : decode cX3_shortest 43 = .ok (.isub, 1) := by decide +kernel
theorem dX3_shortest_44 : decode cX3_shortest 44 = .ok (.iload_n 3, 1) := by decide +kernel
theorem dX3_shortest_45 : decode cX3_shortest 45 = .ok (.iadd, 1) := by decide +kernel
theorem dX3_shortest_46 : decode cX3_shortest 46 = .ok (.iaload, 1) := by decide +kernel
theorem dX3_shortest_47 : decode cX3_shortest 47 = .ok (.if_icmp .ne 45, 3) := by decide +kernel
theorem dX3_shortest_50 : decode cX3_shortest 50 = .ok (.iload 4, 2) := by decide +kernel
theorem dX3_shortest_52 : decode cX3_shortest 52 = .ok (.aload_n 0, 1) := by decide +kernel
theorem dX3_shortest_53 : decode cX3_shortest 53 = .ok (.getfield 13, 3) := by decide +kernel
theorem dX3_shortest_56 : decode cX3_shortest 56 = .ok (.imul, 1) := by decide +kernel
theorem dX3_shortest_57 : decode cX3_shortest 57 = .ok (.iload_n 3, 1) := by decide +kernel
theorem dX3_shortest_58 : decode cX3_shortest 58 = .ok (.aload_n 0, 1) := by decide +kernel
theorem dX3_shortest_59 : decode cX3_shortest 59 = .ok (.getfield 7, 3) := by decide +kernel
theorem dX3_shortest_62 : decode cX3_shortest 62 = .ok (.imul, 1) := by decide +kernel
theorem dX3_shortest_63 : decode cX3_shortest 63 = .ok (.isub, 1) := by decide +kernel
theorem dX3_shortest_64 : decode cX3_shortest 64 = .ok (.istore 5, 2) := by decide +kernel
theorem dX3_shortest_66 : decode cX3_shortest 66 = .ok (.iload 5, 2) := by decide +kernel
theorem dX3_shortest_68 : decode cX3_shortest 68 = .ok (.ifCond .gt 15, 3) := by decide +kernel
theorem dX3_shortest_71 : decode cX3_shortest 71 = .ok (.iload 5, 2) := by decide +kernel
theorem dX3_shortest_73 : decode cX3_shortest 73 = .ok (.ifCond .ne 13, 3) := by decide +kernel
theorem dX3_shortest_76 : decode cX3_shortest 76 = .ok (.aload_n 0, 1) := by decide +kernel
theorem dX3_shortest_77 : decode cX3_shortest 77 = .ok (.getfield 16, 3) := by decide +kernel
theorem dX3_shortest_80 : decode cX3_shortest 80 = .ok (.ifCond .ne 6, 3) := by decide +kernel
theorem dX3_shortest_83 : decode cX3_shortest 83 = .ok (.iload 4, 2) := by decide +kernel
theorem dX3_shortest_85 : decode cX3_shortest 85 = .ok (.ireturn, 1) := by decide +kernel
theorem dX3_shortest_86 : decode cX3_shortest 86 = .ok (.iinc 4 1, 3) := by decide +kernel
theorem dX3_shortest_89 : decode cX3_shortest 89 = .ok (.goto (-62), 3) := by decide +kernel
theorem dX3_shortest_92 : decode cX3_shortest 92 = .ok (.iinc 3 1, 3) := by decide +kernel
theorem dX3_shortest_95 : decode cX3_shortest 95 = .ok (.goto (-93), 3) := by decide +kernel
theorem dX3_shortest_98 : decode cX3_shortest 98 = .ok (.iconst 0, 1) := by decide +kernel
theorem dX3_shortest_99 : decode cX3_shortest 99 = .ok (.ireturn, 1) := by decide +kernel
theorem dX4_init_0 : decode cX4_init 0 = .ok (.aload_n 0, 1) := by decide +kernel
theorem dX4_init_1 : decode cX4_init 1 = .ok (.invokespecial 3, 3) := by decide +kernel
theorem dX4_init_4 : decode cX4_init 4 = .ok (.aload_n 0, 1) := by decide +kernel
theorem dX4_init_5 : decode cX4_init 5 = .ok (.bipush 60, 2) := by decide +kernel
theorem dX4_init_7 : decode cX4_init 7 = .ok (.newarray .int, 2) := by decide +kernel
theorem dX4_init_9 : decode cX4_init 9 = .ok (.putfield 9, 3) := by decide +kernel
theorem dX4_init_12 : decode cX4_init 12 = .ok (.return_, 1) := by decide +kernel
theorem dX4_forgetLooks_0 : decode cX4_forgetLooks 0 = .ok (.aload_n 0, 1) := by decide +kernel
theorem dX4_forgetLooks_1 : decode cX4_forgetLooks 1 = .ok (.iconst 0, 1) := by decide +kernel
theorem dX4_forgetLooks_2 : decode cX4_forgetLooks 2 = .ok (.putfield 15, 3) := by decide +kernel
theorem dX4_forgetLooks_5 : decode cX4_forgetLooks 5 = .ok (.return_, 1) := by decide +kernel
theorem dX4_begin_0 : decode cX4_begin 0 = .ok (.aload_n 0, 1) := by decide +kernel
theorem dX4_begin_1 : decode cX4_begin 1 = .ok (.aload_n 1, 1) := by decide +kernel
theorem dX4_begin_2 : decode cX4_begin 2 = .ok (.putfield 19, 3) := by decide +kernel
theorem dX4_begin_5 : decode cX4_begin 5 = .ok (.aload_n 0, 1) := by decide +kernel
theorem dX4_begin_6 : decode cX4_begin 6 = .ok (.iload_n 2, 1) := by decide +kernel
theorem dX4_begin_7 : decode cX4_begin 7 = .ok (.putfield 23, 3) := by decide +kernel
theorem dX4_begin_10 : decode cX4_begin 10 = .ok (.aload_n 0, 1) := by decide +kernel
theorem dX4_begin_11 : decode cX4_begin 11 = .ok (.iload_n 3, 1) := by decide +kernel
theorem dX4_begin_12 : decode cX4_begin 12 = .ok (.putfield 26, 3) := by decide +kernel
theorem dX4_begin_15 : decode cX4_begin 15 = .ok (.aload_n 0, 1) := by decide +kernel
theorem dX4_begin_16 : decode cX4_begin 16 = .ok (.iload 4, 2) := by decide +kernel
theorem dX4_begin_18 : decode cX4_begin 18 = .ok (.putfield 29, 3) := by decide +kernel
theorem dX4_begin_21 : decode cX4_begin 21 = .ok (.aload_n 0, 1) := by decide +kernel
theorem dX4_begin_22 : decode cX4_begin 22 = .ok (.aload_n 0, 1) := by decide +kernel
theorem dX4_begin_23 : decode cX4_begin 23 = .ok (.invokevirtual 32, 3) := by decide +kernel
theorem dX4_begin_26 : decode cX4_begin 26 = .ok (.ifCond .eq 8, 3) := by decide +kernel
theorem dX4_begin_29 : decode cX4_begin 29 = .ok (.bipush 10, 2) := by decide +kernel
theorem dX4_begin_31 : decode cX4_begin 31 = .ok (.goto 4, 3) := by decide +kernel
theorem dX4_begin_34 : decode cX4_begin 34 = .ok (.iconst 1, 1) := by decide +kernel
theorem dX4_begin_35 : decode cX4_begin 35 = .ok (.putfield 36, 3) := by decide +kernel
theorem dX4_begin_38 : decode cX4_begin 38 = .ok (.aload_n 0, 1) := by decide +kernel
theorem dX4_begin_39 : decode cX4_begin 39 = .ok (.iconst 0, 1) := by decide +kernel
theorem dX4_begin_40 : decode cX4_begin 40 = .ok (.putfield 39, 3) := by decide +kernel
theorem dX4_begin_43 : decode cX4_begin 43 = .ok (.aload_n 0, 1) := by decide +kernel
theorem dX4_begin_44 : decode cX4_begin 44 = .ok (.iconst 0, 1) := by decide +kernel
theorem dX4_begin_45 : decode cX4_begin 45 = .ok (.putfield 42, 3) := by decide +kernel
theorem dX4_begin_48 : decode cX4_begin 48 = .ok (.aload_n 0, 1) := by decide +kernel
theorem dX4_begin_49 : decode cX4_begin 49 = .ok (.iconst 0, 1) := by decide +kernel
theorem dX4_begin_50 : decode cX4_begin 50 = .ok (.putfield 45, 3) := by decide +kernel
theorem dX4_begin_53 : decode cX4_begin 53 = .ok (.aload_n 0, 1) := by decide +kernel
theorem dX4_begin_54 : decode cX4_begin 54 = .ok (.iconst 0, 1) := by decide +kernel
theorem dX4_begin_55 : decode cX4_begin 55 = .ok (.putfield 48, 3) := by decide +kernel
theorem dX4_begin_58 : decode cX4_begin 58 = .ok (.aload_n 0, 1) := by decide +kernel
theorem dX4_begin_59 : decode cX4_begin 59 = .ok (.iconst 0, 1) := by decide +kernel
theorem dX4_begin_60 : decode cX4_begin 60 = .ok (.putfield 51, 3) := by decide +kernel
theorem dX4_begin_63 : decode cX4_begin 63 = .ok (.return_, 1) := by decide +kernel
theorem dX4_hasShape_0 : decode cX4_hasShape 0 = .ok (.iconst 0, 1) := by decide +kernel
theorem dX4_hasShape_1 : decode cX4_hasShape 1 = .ok (.istore_n 1, 1) := by decide +kernel
theorem dX4_hasShape_2 : decode cX4_hasShape 2 = .ok (.iload_n 1, 1) := by decide +kernel
theorem dX4_hasShape_3 : decode cX4_hasShape 3 = .ok (.aload_n 0, 1) := by decide +kernel
theorem dX4_hasShape_4 : decode cX4_hasShape 4 = .ok (.getfield 19, 3) := by decide +kernel
theorem dX4_hasShape_7 : decode cX4_hasShape 7 = .ok (.arraylength, 1) := by decide +kernel
theorem dX4_hasShape_8 : decode cX4_hasShape 8 = .ok (.if_icmp .ge 34, 3) := by decide +kernel
theorem dX4_hasShape_11 : decode cX4_hasShape 11 = .ok (.aload_n 0, 1) := by decide +kernel
theorem dX4_hasShape_12 : decode cX4_hasShape 12 = .ok (.getfield 23, 3) := by decide +kernel
theorem dX4_hasShape_15 : decode cX4_hasShape 15 = .ok (.iload_n 1, 1) := by decide +kernel
theorem dX4_hasShape_16 : decode cX4_hasShape 16 = .ok (.ishr, 1) := by decide +kernel
theorem dX4_hasShape_17 : decode cX4_hasShape 17 = .ok (.iconst 1, 1) := by decide +kernel
theorem dX4_hasShape_18 : decode cX4_hasShape 18 = .ok (.iand, 1) := by decide +kernel
theorem dX4_hasShape_19 : decode cX4_hasShape 19 = .ok (.ifCond .eq 17, 3) := by decide +kernel
theorem dX4_hasShape_22 : decode cX4_hasShape 22 = .ok (.aload_n 0, 1) := by decide +kernel
theorem dX4_hasShape_23 : decode cX4_hasShape 23 = .ok (.getfield 19, 3) := by decide +kernel
theorem dX4_hasShape_26 : decode cX4_hasShape 26 = .ok (.iload_n 1, 1) := by decide +kernel
theorem dX4_hasShape_27 : decode cX4_hasShape 27 = .ok (.aaload, 1) := by decide +kernel
theorem dX4_hasShape_28 : decode cX4_hasShape 28 = .ok (.instanceof 55, 3) := by decide +kernel
theorem dX4_hasShape_31 : decode cX4_hasShape 31 = .ok (.ifCond .eq 5, 3) := by decide +kernel
theorem dX4_hasShape_34 : decode cX4_hasShape 34 = .ok (.iconst 1, 1) := by decide +kernel
theorem dX4_hasShape_35 : decode cX4_hasShape 35 = .ok (.ireturn, 1) := by decide +kernel
theorem dX4_hasShape_36 : decode cX4_hasShape 36 = .ok (.iinc 1 1, 3) := by decide +kernel
theorem dX4_hasShape_39 : decode cX4_hasShape 39 = .ok (.goto (-37), 3) := by decide +kernel
theorem dX4_hasShape_42 : decode cX4_hasShape 42 = .ok (.iconst 0, 1) := by decide +kernel
theorem dX4_hasShape_43 : decode cX4_hasShape 43 = .ok (.ireturn, 1) := by decide +kernel
theorem dX4_advanceBy_0 : decode cX4_advanceBy 0 = .ok (.iconst 1, 1) := by decide +kernel
theorem dX4_advanceBy_1 : decode cX4_advanceBy 1 = .ok (.istore_n 2, 1) := by decide +kernel
theorem dX4_advanceBy_2 : decode cX4_advanceBy 2 = .ok (.iconst 0, 1) := by decide +kernel
theorem dX4_advanceBy_3 : decode cX4_advanceBy 3 = .ok (.istore_n 3, 1) := by decide +kernel
theorem dX4_advanceBy_4 : decode cX4_advanceBy 4 = .ok (.iload_n 3, 1) := by decide +kernel
theorem dX4_advanceBy_5 : decode cX4_advanceBy 5 = .ok (.iload_n 1, 1) := by decide +kernel
theorem dX4_advanceBy_6 : decode cX4_advanceBy 6 = .ok (.if_icmp .ge 19, 3) := by decide +kernel
theorem dX4_advanceBy_9 : decode cX4_advanceBy 9 = .ok (.iload_n 2, 1) := by decide +kernel
theorem dX4_advanceBy_10 : decode cX4_advanceBy 10 = .ok (.iconst 1, 1) := by decide +kernel
theorem dX4_advanceBy_11 : decode cX4_advanceBy 11 = .ok (.if_icmp .ne 14, 3) := by decide +kernel
theorem dX4_advanceBy_14 : decode cX4_advanceBy 14 = .ok (.aload_n 0, 1) := by decide +kernel
theorem dX4_advanceBy_15 : decode cX4_advanceBy 15 = .ok (.invokevirtual 57, 3) := by decide +kernel
theorem dX4_advanceBy_18 : decode cX4_advanceBy 18 = .ok (.istore_n 2, 1) := by decide +kernel
theorem dX4_advanceBy_19 : decode cX4_advanceBy 19 = .ok (.iinc 3 1, 3) := by decide +kernel
theorem dX4_advanceBy_22 : decode cX4_advanceBy 22 = .ok (.goto (-18), 3) := by decide +kernel
theorem dX4_advanceBy_25 : decode cX4_advanceBy 25 = .ok (.iload_n 2, 1) := by decide +kernel
theorem dX4_advanceBy_26 : decode cX4_advanceBy 26 = .ok (.ireturn, 1) := by decide +kernel
theorem dX4_advance_0 : decode cX4_advance 0 = .ok (.aload_n 0, 1) := by decide +kernel
theorem dX4_advance_1 : decode cX4_advance 1 = .ok (.getfield 51, 3) := by decide +kernel
theorem dX4_advance_4 : decode cX4_advance 4 = .ok (.ifCond .ne 45, 3) := by decide +kernel
theorem dX4_advance_7 : decode cX4_advance 7 = .ok (.aload_n 0, 1) := by decide +kernel
theorem dX4_advance_8 : decode cX4_advance 8 = .ok (.iconst 1, 1) := by decide +kernel
theorem dX4_advance_9 : decode cX4_advance 9 = .ok (.putfield 51, 3) := by decide +kernel
theorem dX4_advance_12 : decode cX4_advance 12 = .ok (.aload_n 0, 1) := by decide +kernel
theorem dX4_advance_13 : decode cX4_advance 13 = .ok (.invokevirtual 61, 3) := by decide +kernel
theorem dX4_advance_16 : decode cX4_advance 16 = .ok (.ifCond .ne 6, 3) := by decide +kernel
theorem dX4_advance_19 : decode cX4_advance 19 = .ok (.bipush (-2), 2) := by decide +kernel
theorem dX4_advance_21 : decode cX4_advance 21 = .ok (.ireturn, 1) := by decide +kernel
theorem dX4_advance_22 : decode cX4_advance 22 = .ok (.aload_n 0, 1) := by decide +kernel
theorem dX4_advance_23 : decode cX4_advance 23 = .ok (.getfield 29, 3) := by decide +kernel
theorem dX4_advance_26 : decode cX4_advance 26 = .ok (.ifCond .ne 23, 3) := by decide +kernel
theorem dX4_advance_29 : decode cX4_advance 29 = .ok (.aload_n 0, 1) := by decide +kernel
theorem dX4_advance_30 : decode cX4_advance 30 = .ok (.aload_n 0, 1) := by decide +kernel
theorem dX4_advance_31 : decode cX4_advance 31 = .ok (.getfield 26, 3) := by decide +kernel
theorem dX4_advance_34 : decode cX4_advance 34 = .ok (.putfield 48, 3) := by decide +kernel
theorem dX4_advance_37 : decode cX4_advance 37 = .ok (.aload_n 0, 1) := by decide +kernel
theorem dX4_advance_38 : decode cX4_advance 38 = .ok (.dup, 1) := by decide +kernel
theorem dX4_advance_39 : decode cX4_advance 39 = .ok (.getfield 39, 3) := by decide +kernel
theorem dX4_advance_42 : decode cX4_advance 42 = .ok (.iconst 1, 1) := by decide +kernel
theorem dX4_advance_43 : decode cX4_advance 43 = .ok (.iadd, 1) := by decide +kernel
theorem dX4_advance_44 : decode cX4_advance 44 = .ok (.putfield 39, 3) := by decide +kernel
theorem dX4_advance_47 : decode cX4_advance 47 = .ok (.iconst 1, 1) := by decide +kernel
theorem dX4_advance_48 : decode cX4_advance 48 = .ok (.ireturn, 1) := by decide +kernel
theorem dX4_advance_49 : decode cX4_advance 49 = .ok (.iconst 0, 1) := by decide +kernel
theorem dX4_advance_50 : decode cX4_advance 50 = .ok (.istore_n 1, 1) := by decide +kernel
theorem dX4_advance_51 : decode cX4_advance 51 = .ok (.iload_n 1, 1) := by decide +kernel
theorem dX4_advance_52 : decode cX4_advance 52 = .ok (.ldc 64, 2) := by decide +kernel
theorem dX4_advance_54 : decode cX4_advance 54 = .ok (.if_icmp .ge 76, 3) := by decide +kernel
theorem dX4_advance_57 : decode cX4_advance 57 = .ok (.aload_n 0, 1) := by decide +kernel
theorem dX4_advance_58 : decode cX4_advance 58 = .ok (.getfield 48, 3) := by decide +kernel
theorem dX4_advance_61 : decode cX4_advance 61 = .ok (.aload_n 0, 1) := by decide +kernel
theorem dX4_advance_62 : decode cX4_advance 62 = .ok (.getfield 26, 3) := by decide +kernel
theorem dX4_advance_65 : decode cX4_advance 65 = .ok (.if_icmp .ge 22, 3) := by decide +kernel
theorem dX4_advance_68 : decode cX4_advance 68 = .ok (.aload_n 0, 1) := by decide +kernel
theorem dX4_advance_69 : decode cX4_advance 69 = .ok (.invokevirtual 61, 3) := by decide +kernel
theorem dX4_advance_72 : decode cX4_advance 72 = .ok (.ifCond .ne 6, 3) := by decide +kernel
theorem dX4_advance_75 : decode cX4_advance 75 = .ok (.bipush (-2), 2) := by decide +kernel
theorem dX4_advance_77 : decode cX4_advance 77 = .ok (.ireturn, 1) := by decide +kernel
theorem dX4_advance_78 : decode cX4_advance 78 = .ok (.aload_n 0, 1) := by decide +kernel
theorem dX4_advance_79 : decode cX4_advance 79 = .ok (.invokevirtual 65, 3) := by decide +kernel
theorem dX4_advance_82 : decode cX4_advance 82 = .ok (.ifCond .eq 42, 3) := by decide +kernel
theorem dX4_advance_85 : decode cX4_advance 85 = .ok (.iconst 1, 1) := by decide +kernel
theorem dX4_advance_86 : decode cX4_advance 86 = .ok (.ireturn, 1) := by decide +kernel
theorem dX4_advance_87 : decode cX4_advance 87 = .ok (.aload_n 0, 1) := by decide +kernel
theorem dX4_advance_88 : decode cX4_advance 88 = .ok (.getfield 45, 3) := by decide +kernel
theorem dX4_advance_91 : decode cX4_advance 91 = .ok (.ifCond .le 31, 3) := by decide +kernel
theorem dX4_advance_94 : decode cX4_advance 94 = .ok (.aload_n 0, 1) := by decide +kernel
theorem dX4_advance_95 : decode cX4_advance 95 = .ok (.dup, 1) := by decide +kernel
theorem dX4_advance_96 : decode cX4_advance 96 = .ok (.getfield 45, 3) := by decide +kernel
theorem dX4_advance_99 : decode cX4_advance 99 = .ok (.iconst 1, 1) := by decide +kernel
theorem dX4_advance_100 : decode cX4_advance 100 = .ok (.isub, 1) := by decide +kernel
theorem dX4_advance_101 : decode cX4_advance 101 = .ok (.putfield 45, 3) := by decide +kernel
theorem dX4_advance_104 : decode cX4_advance 104 = .ok (.aload_n 0, 1) := by decide +kernel
theorem dX4_advance_105 : decode cX4_advance 105 = .ok (.aload_n 0, 1) := by decide +kernel
theorem dX4_advance_106 : decode cX4_advance 106 = .ok (.getfield 9, 3) := by decide +kernel
theorem dX4_advance_109 : decode cX4_advance 109 = .ok (.aload_n 0, 1) := by decide +kernel
theorem dX4_advance_110 : decode cX4_advance 110 = .ok (.getfield 45, 3) := by decide +kernel
theorem dX4_advance_113 : decode cX4_advance 113 = .ok (.iaload, 1) := by decide +kernel
theorem dX4_advance_114 : decode cX4_advance 114 = .ok (.iconst 1, 1) := by decide +kernel
theorem dX4_advance_115 : decode cX4_advance 115 = .ok (.iadd, 1) := by decide +kernel
theorem dX4_advance_116 : decode cX4_advance 116 = .ok (.putfield 48, 3) := by decide +kernel
theorem dX4_advance_119 : decode cX4_advance 119 = .ok (.goto 5, 3) := by decide +kernel
theorem dX4_advance_122 : decode cX4_advance 122 = .ok (.iconst 0, 1) := by decide +kernel
theorem dX4_advance_123 : decode cX4_advance 123 = .ok (.ireturn, 1) := by decide +kernel
theorem dX4_advance_124 : decode cX4_advance 124 = .ok (.iinc 1 1, 3) := by decide +kernel
theorem dX4_advance_127 : decode cX4_advance 127 = .ok (.goto (-76), 3) := by decide +kernel
theorem dX4_advance_130 : decode cX4_advance 130 = .ok (.iconst 0, 1) := by decide +kernel
theorem dX4_advance_131 : decode cX4_advance 131 = .ok (.ireturn, 1) := by decide +kernel
theorem dX4_takeLook_0 : decode cX4_takeLook 0 = .ok (.aload_n 0, 1) := by decide +kernel
theorem dX4_takeLook_1 : decode cX4_takeLook 1 = .ok (.getfield 15, 3) := by decide +kernel
theorem dX4_takeLook_4 : decode cX4_takeLook 4 = .ok (.aload_n 0, 1) := by decide +kernel
theorem dX4_takeLook_5 : decode cX4_takeLook 5 = .ok (.getfield 36, 3) := by decide +kernel
theorem dX4_takeLook_8 : decode cX4_takeLook 8 = .ok (.iadd, 1) := by decide +kernel
theorem dX4_takeLook_9 : decode cX4_takeLook 9 = .ok (.sipush 20000, 3) := by decide +kernel
theorem dX4_takeLook_12 : decode cX4_takeLook 12 = .ok (.if_icmp .le 5, 3) := by decide +kernel
theorem dX4_takeLook_15 : decode cX4_takeLook 15 = .ok (.iconst 0, 1) := by decide +kernel
theorem dX4_takeLook_16 : decode cX4_takeLook 16 = .ok (.ireturn, 1) := by decide +kernel
theorem dX4_takeLook_17 : decode cX4_takeLook 17 = .ok (.aload_n 0, 1) := by decide +kernel
theorem dX4_takeLook_18 : decode cX4_takeLook 18 = .ok (.dup, 1) := by decide +kernel
theorem dX4_takeLook_19 : decode cX4_takeLook 19 = .ok (.getfield 15, 3) := by decide +kernel
theorem dX4_takeLook_22 : decode cX4_takeLook 22 = .ok (.aload_n 0, 1) := by decide +kernel
theorem dX4_takeLook_23 : decode cX4_takeLook 23 = .ok (.getfield 36, 3) := by decide +kernel
theorem dX4_takeLook_26 : decode cX4_takeLook 26 = .ok (.iadd, 1) := by decide +kernel
theorem dX4_takeLook_27 : decode cX4_takeLook 27 = .ok (.putfield 15, 3) := by decide +kernel
theorem dX4_takeLook_30 : decode cX4_takeLook 30 = .ok (.iconst 1, 1) := by decide +kernel
theorem dX4_takeLook_31 : decode cX4_takeLook 31 = .ok (.ireturn, 1) := by decide +kernel
theorem dX4_putBehind_0 : decode cX4_putBehind 0 = .ok (.aload_n 0, 1) := by decide +kernel
theorem dX4_putBehind_1 : decode cX4_putBehind 1 = .ok (.getfield 9, 3) := by decide +kernel
theorem dX4_putBehind_4 : decode cX4_putBehind 4 = .ok (.aload_n 0, 1) := by decide +kernel
theorem dX4_putBehind_5 : decode cX4_putBehind 5 = .ok (.getfield 45, 3) := by decide +kernel
theorem dX4_putBehind_8 : decode cX4_putBehind 8 = .ok (.aload_n 0, 1) := by decide +kernel
theorem dX4_putBehind_9 : decode cX4_putBehind 9 = .ok (.getfield 48, 3) := by decide +kernel
theorem dX4_putBehind_12 : decode cX4_putBehind 12 = .ok (.iastore, 1) := by decide +kernel
theorem dX4_putBehind_13 : decode cX4_putBehind 13 = .ok (.aload_n 0, 1) := by decide +kernel
theorem dX4_putBehind_14 : decode cX4_putBehind 14 = .ok (.dup, 1) := by decide +kernel
theorem dX4_putBehind_15 : decode cX4_putBehind 15 = .ok (.getfield 48, 3) := by decide +kernel
theorem dX4_putBehind_18 : decode cX4_putBehind 18 = .ok (.iconst 1, 1) := by decide +kernel
theorem dX4_putBehind_19 : decode cX4_putBehind 19 = .ok (.iadd, 1) := by decide +kernel
theorem dX4_putBehind_20 : decode cX4_putBehind 20 = .ok (.putfield 48, 3) := by decide +kernel
theorem dX4_putBehind_23 : decode cX4_putBehind 23 = .ok (.aload_n 0, 1) := by decide +kernel
theorem dX4_putBehind_24 : decode cX4_putBehind 24 = .ok (.getfield 19, 3) := by decide +kernel
theorem dX4_putBehind_27 : decode cX4_putBehind 27 = .ok (.aload_n 0, 1) := by decide +kernel
theorem dX4_putBehind_28 : decode cX4_putBehind 28 = .ok (.getfield 23, 3) := by decide +kernel
theorem dX4_putBehind_31 : decode cX4_putBehind 31 = .ok (.aload_n 0, 1) := by decide +kernel
theorem dX4_putBehind_32 : decode cX4_putBehind 32 = .ok (.getfield 9, 3) := by decide +kernel
theorem dX4_putBehind_35 : decode cX4_putBehind 35 = .ok (.aload_n 0, 1) := by decide +kernel
theorem dX4_putBehind_36 : decode cX4_putBehind 36 = .ok (.getfield 45, 3) := by decide +kernel
theorem dX4_putBehind_39 : decode cX4_putBehind 39 = .ok (.iconst 1, 1) := by decide +kernel
theorem dX4_putBehind_40 : decode cX4_putBehind 40 = .ok (.iadd, 1) := by decide +kernel
theorem dX4_putBehind_41 : decode cX4_putBehind 41 = .ok (.invokestatic 68, 3) := by decide +kernel
theorem dX4_putBehind_44 : decode cX4_putBehind 44 = .ok (.iconst (-1), 1) := by decide +kernel
theorem dX4_putBehind_45 : decode cX4_putBehind 45 = .ok (.if_icmp .eq 5, 3) := by decide +kernel
theorem dX4_putBehind_48 : decode cX4_putBehind 48 = .ok (.iconst 0, 1) := by decide +kernel
theorem dX4_putBehind_49 : decode cX4_putBehind 49 = .ok (.ireturn, 1) := by decide +kernel
theorem dX4_putBehind_50 : decode cX4_putBehind 50 = .ok (.aload_n 0, 1) := by decide +kernel
theorem dX4_putBehind_51 : decode cX4_putBehind 51 = .ok (.aload_n 0, 1) := by decide +kernel
theorem dX4_putBehind_52 : decode cX4_putBehind 52 = .ok (.getfield 42, 3) := by decide +kernel
theorem dX4_putBehind_55 : decode cX4_putBehind 55 = .ok (.aload_n 0, 1) := by decide +kernel
theorem dX4_putBehind_56 : decode cX4_putBehind 56 = .ok (.getfield 45, 3) := by decide +kernel
theorem dX4_putBehind_59 : decode cX4_putBehind 59 = .ok (.iconst 1, 1) := by decide +kernel
theorem dX4_putBehind_60 : decode cX4_putBehind 60 = .ok (.iadd, 1) := by decide +kernel
theorem dX4_putBehind_61 : decode cX4_putBehind 61 = .ok (.invokestatic 72, 3) := by decide +kernel
theorem dX4_putBehind_64 : decode cX4_putBehind 64 = .ok (.putfield 42, 3) := by decide +kernel
theorem dX4_putBehind_67 : decode cX4_putBehind 67 = .ok (.aload_n 0, 1) := by decide +kernel
theorem dX4_putBehind_68 : decode cX4_putBehind 68 = .ok (.getfield 45, 3) := by decide +kernel
theorem dX4_putBehind_71 : decode cX4_putBehind 71 = .ok (.iconst 1, 1) := by decide +kernel
theorem dX4_putBehind_72 : decode cX4_putBehind 72 = .ok (.iadd, 1) := by decide +kernel
theorem dX4_putBehind_73 : decode cX4_putBehind 73 = .ok (.aload_n 0, 1) := by decide +kernel
theorem dX4_putBehind_74 : decode cX4_putBehind 74 = .ok (.getfield 29, 3) := by decide +kernel
theorem dX4_putBehind_77 : decode cX4_putBehind 77 = .ok (.if_icmp .lt 15, 3) := by decide +kernel
theorem dX4_putBehind_80 : decode cX4_putBehind 80 = .ok (.aload_n 0, 1) := by decide +kernel
theorem dX4_putBehind_81 : decode cX4_putBehind 81 = .ok (.dup, 1) := by decide +kernel
theorem dX4_putBehind_82 : decode cX4_putBehind 82 = .ok (.getfield 39, 3) := by decide +kernel
theorem dX4_putBehind_85 : decode cX4_putBehind 85 = .ok (.iconst 1, 1) := by decide +kernel
theorem dX4_putBehind_86 : decode cX4_putBehind 86 = .ok (.iadd, 1) := by decide +kernel
theorem dX4_putBehind_87 : decode cX4_putBehind 87 = .ok (.putfield 39, 3) := by decide +kernel
theorem dX4_putBehind_90 : decode cX4_putBehind 90 = .ok (.iconst 1, 1) := by decide +kernel
theorem dX4_putBehind_91 : decode cX4_putBehind 91 = .ok (.ireturn, 1) := by decide +kernel
theorem dX4_putBehind_92 : decode cX4_putBehind 92 = .ok (.aload_n 0, 1) := by decide +kernel
theorem dX4_putBehind_93 : decode cX4_putBehind 93 = .ok (.dup, 1) := by decide +kernel
theorem dX4_putBehind_94 : decode cX4_putBehind 94 = .ok (.getfield 45, 3) := by decide +kernel
theorem dX4_putBehind_97 : decode cX4_putBehind 97 = .ok (.iconst 1, 1) := by decide +kernel
theorem dX4_putBehind_98 : decode cX4_putBehind 98 = .ok (.iadd, 1) := by decide +kernel
theorem dX4_putBehind_99 : decode cX4_putBehind 99 = .ok (.putfield 45, 3) := by decide +kernel
theorem dX4_putBehind_102 : decode cX4_putBehind 102 = .ok (.aload_n 0, 1) := by decide +kernel
theorem dX4_putBehind_103 : decode cX4_putBehind 103 = .ok (.iconst 0, 1) := by decide +kernel
theorem dX4_putBehind_104 : decode cX4_putBehind 104 = .ok (.putfield 48, 3) := by decide +kernel
theorem dX4_putBehind_107 : decode cX4_putBehind 107 = .ok (.iconst 0, 1) := by decide +kernel
theorem dX4_putBehind_108 : decode cX4_putBehind 108 = .ok (.ireturn, 1) := by decide +kernel
theorem dX5_init_0 : decode cX5_init 0 = .ok (.aload_n 0, 1) := by decide +kernel
theorem dX5_init_1 : decode cX5_init 1 = .ok (.invokespecial 3, 3) := by decide +kernel
theorem dX5_init_4 : decode cX5_init 4 = .ok (.aload_n 0, 1) := by decide +kernel
theorem dX5_init_5 : decode cX5_init 5 = .ok (.iconst 3, 1) := by decide +kernel
theorem dX5_init_6 : decode cX5_init 6 = .ok (.newarray .int, 2) := by decide +kernel
theorem dX5_init_8 : decode cX5_init 8 = .ok (.putfield 9, 3) := by decide +kernel
theorem dX5_init_11 : decode cX5_init 11 = .ok (.aload_n 0, 1) := by decide +kernel
theorem dX5_init_12 : decode cX5_init 12 = .ok (.iconst 3, 1) := by decide +kernel
theorem dX5_init_13 : decode cX5_init 13 = .ok (.newarray .int, 2) := by decide +kernel
theorem dX5_init_15 : decode cX5_init 15 = .ok (.putfield 15, 3) := by decide +kernel
theorem dX5_init_18 : decode cX5_init 18 = .ok (.aload_n 0, 1) := by decide +kernel
theorem dX5_init_19 : decode cX5_init 19 = .ok (.iconst 3, 1) := by decide +kernel
theorem dX5_init_20 : decode cX5_init 20 = .ok (.newarray .int, 2) := by decide +kernel
theorem dX5_init_22 : decode cX5_init 22 = .ok (.putfield 18, 3) := by decide +kernel
theorem dX5_init_25 : decode cX5_init 25 = .ok (.aload_n 0, 1) := by decide +kernel
theorem dX5_init_26 : decode cX5_init 26 = .ok (.iconst 3, 1) := by decide +kernel
theorem dX5_init_27 : decode cX5_init 27 = .ok (.newarray .int, 2) := by decide +kernel
theorem dX5_init_29 : decode cX5_init 29 = .ok (.putfield 21, 3) := by decide +kernel
theorem dX5_init_32 : decode cX5_init 32 = .ok (.aload_n 0, 1) := by decide +kernel
theorem dX5_init_33 : decode cX5_init 33 = .ok (.aload_n 1, 1) := by decide +kernel
theorem dX5_init_34 : decode cX5_init 34 = .ok (.putfield 24, 3) := by decide +kernel
theorem dX5_init_37 : decode cX5_init 37 = .ok (.aload_n 1, 1) := by decide +kernel
theorem dX5_init_38 : decode cX5_init 38 = .ok (.astore_n 2, 1) := by decide +kernel
theorem dX5_init_39 : decode cX5_init 39 = .ok (.aload_n 2, 1) := by decide +kernel
theorem dX5_init_40 : decode cX5_init 40 = .ok (.arraylength, 1) := by decide +kernel
theorem dX5_init_41 : decode cX5_init 41 = .ok (.istore_n 3, 1) := by decide +kernel
theorem dX5_init_42 : decode cX5_init 42 = .ok (.iconst 0, 1) := by decide +kernel
theorem dX5_init_43 : decode cX5_init 43 = .ok (.istore 4, 2) := by decide +kernel
theorem dX5_init_45 : decode cX5_init 45 = .ok (.iload 4, 2) := by decide +kernel
theorem dX5_init_47 : decode cX5_init 47 = .ok (.iload_n 3, 1) := by decide +kernel
theorem dX5_init_48 : decode cX5_init 48 = .ok (.if_icmp .ge 26, 3) := by decide +kernel
theorem dX5_init_51 : decode cX5_init 51 = .ok (.aload_n 2, 1) := by decide +kernel
theorem dX5_init_52 : decode cX5_init 52 = .ok (.iload 4, 2) := by decide +kernel
theorem dX5_init_54 : decode cX5_init 54 = .ok (.iaload, 1) := by decide +kernel
theorem dX5_init_55 : decode cX5_init 55 = .ok (.istore 5, 2) := by decide +kernel
theorem dX5_init_57 : decode cX5_init 57 = .ok (.aload_n 0, 1) := by decide +kernel
theorem dX5_init_58 : decode cX5_init 58 = .ok (.getfield 9, 3) := by decide +kernel
theorem dX5_init_61 : decode cX5_init 61 = .ok (.iload 5, 2) := by decide +kernel
theorem dX5_init_63 : decode cX5_init 63 = .ok (.dup2, 1) := by decide +kernel
theorem dX5_init_64 : decode cX5_init 64 = .ok (.iaload, 1) := by decide +kernel
theorem dX5_init_65 : decode cX5_init 65 = .ok (.iconst 1, 1) := by decide +kernel
theorem dX5_init_66 : decode cX5_init 66 = .ok (.iadd, 1) := by decide +kernel
theorem dX5_init_67 : decode cX5_init 67 = .ok (.iastore, 1) := by decide +kernel
theorem dX5_init_68 : decode cX5_init 68 = .ok (.iinc 4 1, 3) := by decide +kernel
theorem dX5_init_71 : decode cX5_init 71 = .ok (.goto (-26), 3) := by decide +kernel
theorem dX5_init_74 : decode cX5_init 74 = .ok (.aload_n 1, 1) := by decide +kernel
theorem dX5_init_75 : decode cX5_init 75 = .ok (.arraylength, 1) := by decide +kernel
theorem dX5_init_76 : decode cX5_init 76 = .ok (.istore_n 2, 1) := by decide +kernel
theorem dX5_init_77 : decode cX5_init 77 = .ok (.iload_n 2, 1) := by decide +kernel
theorem dX5_init_78 : decode cX5_init 78 = .ok (.ifCond .le 23, 3) := by decide +kernel
theorem dX5_init_81 : decode cX5_init 81 = .ok (.aload_n 0, 1) := by decide +kernel
theorem dX5_init_82 : decode cX5_init 82 = .ok (.getfield 9, 3) := by decide +kernel
theorem dX5_init_85 : decode cX5_init 85 = .ok (.aload_n 1, 1) := by decide +kernel
theorem dX5_init_86 : decode cX5_init 86 = .ok (.iload_n 2, 1) := by decide +kernel
theorem dX5_init_87 : decode cX5_init 87 = .ok (.iconst 1, 1) := by decide +kernel
theorem dX5_init_88 : decode cX5_init 88 = .ok (.isub, 1) := by decide +kernel
theorem dX5_init_89 : decode cX5_init 89 = .ok (.iaload, 1) := by decide +kernel
theorem dX5_init_90 : decode cX5_init 90 = .ok (.iaload, 1) := by decide +kernel
theorem dX5_init_91 : decode cX5_init 91 = .ok (.iconst 1, 1) := by decide +kernel
theorem dX5_init_92 : decode cX5_init 92 = .ok (.if_icmp .ne 9, 3) := by decide +kernel
theorem dX5_init_95 : decode cX5_init 95 = .ok (.iinc 2 (-1), 3) := by decide +kernel
theorem dX5_init_98 : decode cX5_init 98 = .ok (.goto (-21), 3) := by decide +kernel
theorem dX5_init_101 : decode cX5_init 101 = .ok (.aload_n 0, 1) := by decide +kernel
theorem dX5_init_102 : decode cX5_init 102 = .ok (.iload_n 2, 1) := by decide +kernel
theorem dX5_init_103 : decode cX5_init 103 = .ok (.putfield 27, 3) := by decide +kernel
theorem dX5_init_106 : decode cX5_init 106 = .ok (.return_, 1) := by decide +kernel
theorem dX5_shortest_0 : decode cX5_shortest 0 = .ok (.aload_n 0, 1) := by decide +kernel
theorem dX5_shortest_1 : decode cX5_shortest 1 = .ok (.iload_n 2, 1) := by decide +kernel
theorem dX5_shortest_2 : decode cX5_shortest 2 = .ok (.iconst 1, 1) := by decide +kernel
theorem dX5_shortest_3 : decode cX5_shortest 3 = .ok (.iadd, 1) := by decide +kernel
theorem dX5_shortest_4 : decode cX5_shortest 4 = .ok (.putfield 31, 3) := by decide +kernel
theorem dX5_shortest_7 : decode cX5_shortest 7 = .ok (.aload_n 0, 1) := by decide +kernel
theorem dX5_shortest_8 : decode cX5_shortest 8 = .ok (.aload_n 1, 1) := by decide +kernel
theorem dX5_shortest_9 : decode cX5_shortest 9 = .ok (.iload_n 2, 1) := by decide +kernel
theorem dX5_shortest_10 : decode cX5_shortest 10 = .ok (.aload_n 0, 1) := by decide +kernel
theorem dX5_shortest_11 : decode cX5_shortest 11 = .ok (.getfield 24, 3) := by decide +kernel
theorem dX5_shortest_14 : decode cX5_shortest 14 = .ok (.arraylength, 1) := by decide +kernel
theorem dX5_shortest_15 : decode cX5_shortest 15 = .ok (.iconst 1, 1) := by decide +kernel
theorem dX5_shortest_16 : decode cX5_shortest 16 = .ok (.isub, 1) := by decide +kernel
theorem dX5_shortest_17 : decode cX5_shortest 17 = .ok (.aload_n 0, 1) := by decide +kernel
theorem dX5_shortest_18 : decode cX5_shortest 18 = .ok (.getfield 24, 3) := by decide +kernel
theorem dX5_shortest_21 : decode cX5_shortest 21 = .ok (.arraylength, 1) := by decide +kernel
theorem dX5_shortest_22 : decode cX5_shortest 22 = .ok (.invokevirtual 34, 3) := by decide +kernel
theorem dX5_shortest_25 : decode cX5_shortest 25 = .ok (.aload_n 0, 1) := by decide +kernel
theorem dX5_shortest_26 : decode cX5_shortest 26 = .ok (.getfield 31, 3) := by decide +kernel
theorem dX5_shortest_29 : decode cX5_shortest 29 = .ok (.iload_n 2, 1) := by decide +kernel
theorem dX5_shortest_30 : decode cX5_shortest 30 = .ok (.if_icmp .le 7, 3) := by decide +kernel
theorem dX5_shortest_33 : decode cX5_shortest 33 = .ok (.iconst 0, 1) := by decide +kernel
theorem dX5_shortest_34 : decode cX5_shortest 34 = .ok (.goto 7, 3) := by decide +kernel
theorem dX5_shortest_37 : decode cX5_shortest 37 = .ok (.aload_n 0, 1) := by decide +kernel
theorem dX5_shortest_38 : decode cX5_shortest 38 = .ok (.getfield 31, 3) := by decide +kernel
theorem dX5_shortest_41 : decode cX5_shortest 41 = .ok (.ireturn, 1) := by decide +kernel
theorem dX5_fit_0 : decode cX5_fit 0 = .ok (.iload_n 3, 1) := by decide +kernel
theorem dX5_fit_1 : decode cX5_fit 1 = .ok (.ifCond .ge 10, 3) := by decide +kernel
theorem dX5_fit_4 : decode cX5_fit 4 = .ok (.aload_n 0, 1) := by decide +kernel
theorem dX5_fit_5 : decode cX5_fit 5 = .ok (.iload 4, 2) := by decide +kernel
theorem dX5_fit_7 : decode cX5_fit 7 = .ok (.putfield 31, 3) := by decide +kernel
theorem dX5_fit_10 : decode cX5_fit 10 = .ok (.return_, 1) := by decide +kernel
theorem dX5_fit_11 : decode cX5_fit 11 = .ok (.aload_n 0, 1) := by decide +kernel
theorem dX5_fit_12 : decode cX5_fit 12 = .ok (.getfield 24, 3) := by decide +kernel
theorem dX5_fit_15 : decode cX5_fit 15 = .ok (.iload_n 3, 1) := by decide +kernel
theorem dX5_fit_16 : decode cX5_fit 16 = .ok (.iaload, 1) := by decide +kernel
theorem dX5_fit_17 : decode cX5_fit 17 = .ok (.istore 5, 2) := by decide +kernel
theorem dX5_fit_19 : decode cX5_fit 19 = .ok (.aload_n 0, 1) := by decide +kernel
theorem dX5_fit_20 : decode cX5_fit 20 = .ok (.getfield 15, 3) := by decide +kernel
theorem dX5_fit_23 : decode cX5_fit 23 = .ok (.iload 5, 2) := by decide +kernel
theorem dX5_fit_25 : decode cX5_fit 25 = .ok (.iaload, 1) := by decide +kernel
theorem dX5_fit_26 : decode cX5_fit 26 = .ok (.ifCond .le 45, 3) := by decide +kernel
theorem dX5_fit_29 : decode cX5_fit 29 = .ok (.aload_n 1, 1) := by decide +kernel
theorem dX5_fit_30 : decode cX5_fit 30 = .ok (.iload_n 2, 1) := by decide +kernel
theorem dX5_fit_31 : decode cX5_fit 31 = .ok (.aload_n 0, 1) := by decide +kernel
theorem dX5_fit_32 : decode cX5_fit 32 = .ok (.getfield 18, 3) := by decide +kernel
theorem dX5_fit_35 : decode cX5_fit 35 = .ok (.iload 5, 2) := by decide +kernel
theorem dX5_fit_37 : decode cX5_fit 37 = .ok (.iaload, 1) := by decide +kernel
theorem dX5_fit_38 : decode cX5_fit 38 = .ok (.aload_n 0, 1) := by decide +kernel
theorem dX5_fit_39 : decode cX5_fit 39 = .ok (.getfield 15, 3) := by decide +kernel
theorem dX5_fit_42 : decode cX5_fit 42 = .ok (.iload 5, 2) := by decide +kernel
theorem dX5_fit_44 : decode cX5_fit 44 = .ok (.iaload, 1) := by decide +kernel
theorem dX5_fit_45 : decode cX5_fit 45 = .ok (.invokestatic 38, 3) := by decide +kernel
theorem dX5_fit_48 : decode cX5_fit 48 = .ok (.ifCond .eq 22, 3) := by decide +kernel
theorem dX5_fit_51 : decode cX5_fit 51 = .ok (.aload_n 0, 1) := by decide +kernel
theorem dX5_fit_52 : decode cX5_fit 52 = .ok (.aload_n 1, 1) := by decide +kernel
theorem dX5_fit_53 : decode cX5_fit 53 = .ok (.iload_n 2, 1) := by decide +kernel
theorem dX5_fit_54 : decode cX5_fit 54 = .ok (.aload_n 0, 1) := by decide +kernel
theorem dX5_fit_55 : decode cX5_fit 55 = .ok (.getfield 15, 3) := by decide +kernel
theorem dX5_fit_58 : decode cX5_fit 58 = .ok (.iload 5, 2) := by decide +kernel
theorem dX5_fit_60 : decode cX5_fit 60 = .ok (.iaload, 1) := by decide +kernel
theorem dX5_fit_61 : decode cX5_fit 61 = .ok (.isub, 1) := by decide +kernel
theorem dX5_fit_62 : decode cX5_fit 62 = .ok (.iload_n 3, 1) := by decide +kernel
theorem dX5_fit_63 : decode cX5_fit 63 = .ok (.iconst 1, 1) := by decide +kernel
theorem dX5_fit_64 : decode cX5_fit 64 = .ok (.isub, 1) := by decide +kernel
theorem dX5_fit_65 : decode cX5_fit 65 = .ok (.iload 4, 2) := by decide +kernel
theorem dX5_fit_67 : decode cX5_fit 67 = .ok (.invokevirtual 34, 3) := by decide +kernel
theorem dX5_fit_70 : decode cX5_fit 70 = .ok (.return_, 1) := by decide +kernel
theorem dX5_fit_71 : decode cX5_fit 71 = .ok (.aload_n 0, 1) := by decide +kernel
theorem dX5_fit_72 : decode cX5_fit 72 = .ok (.getfield 18, 3) := by decide +kernel
theorem dX5_fit_75 : decode cX5_fit 75 = .ok (.iload 5, 2) := by decide +kernel
theorem dX5_fit_77 : decode cX5_fit 77 = .ok (.iload_n 2, 1) := by decide +kernel
theorem dX5_fit_78 : decode cX5_fit 78 = .ok (.iastore, 1) := by decide +kernel
theorem dX5_fit_79 : decode cX5_fit 79 = .ok (.aload_n 0, 1) := by decide +kernel
theorem dX5_fit_80 : decode cX5_fit 80 = .ok (.aload_n 1, 1) := by decide +kernel
theorem dX5_fit_81 : decode cX5_fit 81 = .ok (.iload_n 2, 1) := by decide +kernel
theorem dX5_fit_82 : decode cX5_fit 82 = .ok (.iload_n 3, 1) := by decide +kernel
theorem dX5_fit_83 : decode cX5_fit 83 = .ok (.invokevirtual 42, 3) := by decide +kernel
theorem dX5_fit_86 : decode cX5_fit 86 = .ok (.istore 6, 2) := by decide +kernel
theorem dX5_fit_88 : decode cX5_fit 88 = .ok (.iconst 1, 1) := by decide +kernel
theorem dX5_fit_89 : decode cX5_fit 89 = .ok (.istore 7, 2) := by decide +kernel
theorem dX5_fit_91 : decode cX5_fit 91 = .ok (.iload 7, 2) := by decide +kernel
theorem dX5_fit_93 : decode cX5_fit 93 = .ok (.iload 6, 2) := by decide +kernel
theorem dX5_fit_95 : decode cX5_fit 95 = .ok (.if_icmp .gt 67, 3) := by decide +kernel
theorem dX5_fit_98 : decode cX5_fit 98 = .ok (.iload 4, 2) := by decide +kernel
theorem dX5_fit_100 : decode cX5_fit 100 = .ok (.iload 7, 2) := by decide +kernel
theorem dX5_fit_102 : decode cX5_fit 102 = .ok (.iconst 1, 1) := by decide +kernel
theorem dX5_fit_103 : decode cX5_fit 103 = .ok (.isub, 1) := by decide +kernel
theorem dX5_fit_104 : decode cX5_fit 104 = .ok (.aload_n 0, 1) := by decide +kernel
theorem dX5_fit_105 : decode cX5_fit 105 = .ok (.getfield 9, 3) := by decide +kernel
theorem dX5_fit_108 : decode cX5_fit 108 = .ok (.iload 5, 2) := by decide +kernel
theorem dX5_fit_110 : decode cX5_fit 110 = .ok (.iaload, 1) := by decide +kernel
theorem dX5_fit_111 : decode cX5_fit 111 = .ok (.imul, 1) := by decide +kernel
theorem dX5_fit_112 : decode cX5_fit 112 = .ok (.iadd, 1) := by decide +kernel
theorem dX5_fit_113 : decode cX5_fit 113 = .ok (.aload_n 0, 1) := by decide +kernel
theorem dX5_fit_114 : decode cX5_fit 114 = .ok (.getfield 31, 3) := by decide +kernel
theorem dX5_fit_117 : decode cX5_fit 117 = .ok (.if_icmp .ge 45, 3) := by decide +kernel
theorem dX5_fit_120 : decode cX5_fit 120 = .ok (.aload_n 0, 1) := by decide +kernel
theorem dX5_fit_121 : decode cX5_fit 121 = .ok (.getfield 15, 3) := by decide +kernel
theorem dX5_fit_124 : decode cX5_fit 124 = .ok (.iload 5, 2) := by decide +kernel
theorem dX5_fit_126 : decode cX5_fit 126 = .ok (.iload 7, 2) := by decide +kernel
theorem dX5_fit_128 : decode cX5_fit 128 = .ok (.iastore, 1) := by decide +kernel
theorem dX5_fit_129 : decode cX5_fit 129 = .ok (.aload_n 0, 1) := by decide +kernel
theorem dX5_fit_130 : decode cX5_fit 130 = .ok (.aload_n 1, 1) := by decide +kernel
theorem dX5_fit_131 : decode cX5_fit 131 = .ok (.iload_n 2, 1) := by decide +kernel
theorem dX5_fit_132 : decode cX5_fit 132 = .ok (.iload 7, 2) := by decide +kernel
theorem dX5_fit_134 : decode cX5_fit 134 = .ok (.isub, 1) := by decide +kernel
theorem dX5_fit_135 : decode cX5_fit 135 = .ok (.iload_n 3, 1) := by decide +kernel
theorem dX5_fit_136 : decode cX5_fit 136 = .ok (.iconst 1, 1) := by decide +kernel
theorem dX5_fit_137 : decode cX5_fit 137 = .ok (.isub, 1) := by decide +kernel
theorem dX5_fit_138 : decode cX5_fit 138 = .ok (.iload 4, 2) := by decide +kernel
theorem dX5_fit_140 : decode cX5_fit 140 = .ok (.iload 7, 2) := by decide +kernel
theorem dX5_fit_142 : decode cX5_fit 142 = .ok (.iconst 1, 1) := by decide +kernel
theorem dX5_fit_143 : decode cX5_fit 143 = .ok (.isub, 1) := by decide +kernel
theorem dX5_fit_144 : decode cX5_fit 144 = .ok (.aload_n 0, 1) := by decide +kernel
theorem dX5_fit_145 : decode cX5_fit 145 = .ok (.getfield 9, 3) := by decide +kernel
theorem dX5_fit_148 : decode cX5_fit 148 = .ok (.iload 5, 2) := by decide +kernel
theorem dX5_fit_150 : decode cX5_fit 150 = .ok (.iaload, 1) := by decide +kernel
theorem dX5_fit_151 : decode cX5_fit 151 = .ok (.imul, 1) := by decide +kernel
theorem dX5_fit_152 : decode cX5_fit 152 = .ok (.iadd, 1) := by decide +kernel
theorem dX5_fit_153 : decode cX5_fit 153 = .ok (.invokevirtual 34, 3) := by decide +kernel
theorem dX5_fit_156 : decode cX5_fit 156 = .ok (.iinc 7 1, 3) := by decide +kernel
theorem dX5_fit_159 : decode cX5_fit 159 = .ok (.goto (-68), 3) := by decide +kernel
theorem dX5_fit_162 : decode cX5_fit 162 = .ok (.aload_n 0, 1) := by decide +kernel
theorem dX5_fit_163 : decode cX5_fit 163 = .ok (.getfield 15, 3) := by decide +kernel
theorem dX5_fit_166 : decode cX5_fit 166 = .ok (.iload 5, 2) := by decide +kernel
theorem dX5_fit_168 : decode cX5_fit 168 = .ok (.iconst 0, 1) := by decide +kernel
theorem dX5_fit_169 : decode cX5_fit 169 = .ok (.iastore, 1) := by decide +kernel
theorem dX5_fit_170 : decode cX5_fit 170 = .ok (.return_, 1) := by decide +kernel
theorem dX5_mostFor_0 : decode cX5_mostFor 0 = .ok (.iload_n 3, 1) := by decide +kernel
theorem dX5_mostFor_1 : decode cX5_mostFor 1 = .ok (.aload_n 0, 1) := by decide +kernel
theorem dX5_mostFor_2 : decode cX5_mostFor 2 = .ok (.getfield 27, 3) := by decide +kernel
theorem dX5_mostFor_5 : decode cX5_mostFor 5 = .ok (.if_icmp .lt 5, 3) := by decide +kernel
theorem dX5_mostFor_8 : decode cX5_mostFor 8 = .ok (.iconst 1, 1) := by decide +kernel
theorem dX5_mostFor_9 : decode cX5_mostFor 9 = .ok (.ireturn, 1) := by decide +kernel
theorem dX5_mostFor_10 : decode cX5_mostFor 10 = .ok (.aload_n 0, 1) := by decide +kernel
theorem dX5_mostFor_11 : decode cX5_mostFor 11 = .ok (.getfield 9, 3) := by decide +kernel
theorem dX5_mostFor_14 : decode cX5_mostFor 14 = .ok (.aload_n 0, 1) := by decide +kernel
theorem dX5_mostFor_15 : decode cX5_mostFor 15 = .ok (.getfield 24, 3) := by decide +kernel
theorem dX5_mostFor_18 : decode cX5_mostFor 18 = .ok (.iload_n 3, 1) := by decide +kernel
theorem dX5_mostFor_19 : decode cX5_mostFor 19 = .ok (.iaload, 1) := by decide +kernel
theorem dX5_mostFor_20 : decode cX5_mostFor 20 = .ok (.iaload, 1) := by decide +kernel
theorem dX5_mostFor_21 : decode cX5_mostFor 21 = .ok (.iconst 1, 1) := by decide +kernel
theorem dX5_mostFor_22 : decode cX5_mostFor 22 = .ok (.if_icmp .ne 5, 3) := by decide +kernel
theorem dX5_mostFor_25 : decode cX5_mostFor 25 = .ok (.iload_n 2, 1) := by decide +kernel
theorem dX5_mostFor_26 : decode cX5_mostFor 26 = .ok (.ireturn, 1) := by decide +kernel
theorem dX5_mostFor_27 : decode cX5_mostFor 27 = .ok (.iconst 0, 1) := by decide +kernel
theorem dX5_mostFor_28 : decode cX5_mostFor 28 = .ok (.istore 4, 2) := by decide +kernel
theorem dX5_mostFor_30 : decode cX5_mostFor 30 = .ok (.iload_n 2, 1) := by decide +kernel
theorem dX5_mostFor_31 : decode cX5_mostFor 31 = .ok (.iconst 1, 1) := by decide +kernel
theorem dX5_mostFor_32 : decode cX5_mostFor 32 = .ok (.isub, 1) := by decide +kernel
theorem dX5_mostFor_33 : decode cX5_mostFor 33 = .ok (.istore 5, 2) := by decide +kernel
theorem dX5_mostFor_35 : decode cX5_mostFor 35 = .ok (.iload 5, 2) := by decide +kernel
theorem dX5_mostFor_37 : decode cX5_mostFor 37 = .ok (.iload 4, 2) := by decide +kernel
theorem dX5_mostFor_39 : decode cX5_mostFor 39 = .ok (.if_icmp .le 70, 3) := by decide +kernel
theorem dX5_mostFor_42 : decode cX5_mostFor 42 = .ok (.iconst 0, 1) := by decide +kernel
theorem dX5_mostFor_43 : decode cX5_mostFor 43 = .ok (.istore 6, 2) := by decide +kernel
theorem dX5_mostFor_45 : decode cX5_mostFor 45 = .ok (.iload 6, 2) := by decide +kernel
theorem dX5_mostFor_47 : decode cX5_mostFor 47 = .ok (.iload 5, 2) := by decide +kernel
theorem dX5_mostFor_49 : decode cX5_mostFor 49 = .ok (.if_icmp .ge 38, 3) := by decide +kernel
theorem dX5_mostFor_52 : decode cX5_mostFor 52 = .ok (.iload 6, 2) := by decide +kernel
theorem dX5_mostFor_54 : decode cX5_mostFor 54 = .ok (.iload_n 2, 1) := by decide +kernel
theorem dX5_mostFor_55 : decode cX5_mostFor 55 = .ok (.iload 5, 2) := by decide +kernel
theorem dX5_mostFor_57 : decode cX5_mostFor 57 = .ok (.isub, 1) := by decide +kernel
theorem dX5_mostFor_58 : decode cX5_mostFor 58 = .ok (.if_icmp .ge 29, 3) := by decide +kernel
theorem dX5_mostFor_61 : decode cX5_mostFor 61 = .ok (.aload_n 1, 1) := by decide +kernel
theorem dX5_mostFor_62 : decode cX5_mostFor 62 = .ok (.iload_n 2, 1) := by decide +kernel
theorem dX5_mostFor_63 : decode cX5_mostFor 63 = .ok (.iconst 1, 1) := by decide +kernel
theorem dX5_mostFor_64 : decode cX5_mostFor 64 = .ok (.isub, 1) := by decide +kernel
theorem dX5_mostFor_65 : decode cX5_mostFor 65 = .ok (.iload 6, 2) := by decide +kernel
theorem dX5_mostFor_67 : decode cX5_mostFor 67 = .ok (.isub, 1) := by decide +kernel
theorem dX5_mostFor_68 : decode cX5_mostFor 68 = .ok (.iaload, 1) := by decide +kernel
theorem dX5_mostFor_69 : decode cX5_mostFor 69 = .ok (.aload_n 1, 1) := by decide +kernel
theorem dX5_mostFor_70 : decode cX5_mostFor 70 = .ok (.iload 5, 2) := by decide +kernel
theorem dX5_mostFor_72 : decode cX5_mostFor 72 = .ok (.iconst 1, 1) := by decide +kernel
theorem dX5_mostFor_73 : decode cX5_mostFor 73 = .ok (.isub, 1) := by decide +kernel
theorem dX5_mostFor_74 : decode cX5_mostFor 74 = .ok (.iload 6, 2) := by decide +kernel
theorem dX5_mostFor_76 : decode cX5_mostFor 76 = .ok (.isub, 1) := by decide +kernel
theorem dX5_mostFor_77 : decode cX5_mostFor 77 = .ok (.iaload, 1) := by decide +kernel
theorem dX5_mostFor_78 : decode cX5_mostFor 78 = .ok (.if_icmp .ne 9, 3) := by decide +kernel
theorem dX5_mostFor_81 : decode cX5_mostFor 81 = .ok (.iinc 6 1, 3) := by decide +kernel
theorem dX5_mostFor_84 : decode cX5_mostFor 84 = .ok (.goto (-39), 3) := by decide +kernel
theorem dX5_mostFor_87 : decode cX5_mostFor 87 = .ok (.iload 6, 2) := by decide +kernel
theorem dX5_mostFor_89 : decode cX5_mostFor 89 = .ok (.iload 4, 2) := by decide +kernel
theorem dX5_mostFor_91 : decode cX5_mostFor 91 = .ok (.if_icmp .le 8, 3) := by decide +kernel
theorem dX5_mostFor_94 : decode cX5_mostFor 94 = .ok (.iload 6, 2) := by decide +kernel
theorem dX5_mostFor_96 : decode cX5_mostFor 96 = .ok (.goto 5, 3) := by decide +kernel
theorem dX5_mostFor_99 : decode cX5_mostFor 99 = .ok (.iload 4, 2) := by decide +kernel
theorem dX5_mostFor_101 : decode cX5_mostFor 101 = .ok (.istore 4, 2) := by decide +kernel
theorem dX5_mostFor_103 : decode cX5_mostFor 103 = .ok (.iinc 5 (-1), 3) := by decide +kernel
theorem dX5_mostFor_106 : decode cX5_mostFor 106 = .ok (.goto (-71), 3) := by decide +kernel
theorem dX5_mostFor_109 : decode cX5_mostFor 109 = .ok (.iload 4, 2) := by decide +kernel
theorem dX5_mostFor_111 : decode cX5_mostFor 111 = .ok (.ireturn, 1) := by decide +kernel
theorem dX5_areSame_0 : decode cX5_areSame 0 = .ok (.iload_n 3, 1) := by decide +kernel
theorem dX5_areSame_1 : decode cX5_areSame 1 = .ok (.iload_n 1, 1) := by decide +kernel
theorem dX5_areSame_2 : decode cX5_areSame 2 = .ok (.if_icmp .gt 8, 3) := by decide +kernel
theorem dX5_areSame_5 : decode cX5_areSame 5 = .ok (.iload_n 3, 1) := by decide +kernel
theorem dX5_areSame_6 : decode cX5_areSame 6 = .ok (.iload_n 2, 1) := by decide +kernel
theorem dX5_areSame_7 : decode cX5_areSame 7 = .ok (.if_icmp .le 5, 3) := by decide +kernel
theorem dX5_areSame_10 : decode cX5_areSame 10 = .ok (.iconst 0, 1) := by decide +kernel
theorem dX5_areSame_11 : decode cX5_areSame 11 = .ok (.ireturn, 1) := by decide +kernel
theorem dX5_areSame_12 : decode cX5_areSame 12 = .ok (.iconst 1, 1) := by decide +kernel
theorem dX5_areSame_13 : decode cX5_areSame 13 = .ok (.istore 4, 2) := by decide +kernel
theorem dX5_areSame_15 : decode cX5_areSame 15 = .ok (.iload 4, 2) := by decide +kernel
theorem dX5_areSame_17 : decode cX5_areSame 17 = .ok (.iload_n 3, 1) := by decide +kernel
theorem dX5_areSame_18 : decode cX5_areSame 18 = .ok (.if_icmp .gt 26, 3) := by decide +kernel
theorem dX5_areSame_21 : decode cX5_areSame 21 = .ok (.aload_n 0, 1) := by decide +kernel
theorem dX5_areSame_22 : decode cX5_areSame 22 = .ok (.iload_n 1, 1) := by decide +kernel
theorem dX5_areSame_23 : decode cX5_areSame 23 = .ok (.iload 4, 2) := by decide +kernel
theorem dX5_areSame_25 : decode cX5_areSame 25 = .ok (.isub, 1) := by decide +kernel
theorem dX5_areSame_26 : decode cX5_areSame 26 = .ok (.iaload, 1) := by decide +kernel
theorem dX5_areSame_27 : decode cX5_areSame 27 = .ok (.aload_n 0, 1) := by decide +kernel
theorem dX5_areSame_28 : decode cX5_areSame 28 = .ok (.iload_n 2, 1) := by decide +kernel
theorem dX5_areSame_29 : decode cX5_areSame 29 = .ok (.iload 4, 2) := by decide +kernel
theorem dX5_areSame_31 : decode cX5_areSame 31 = .ok (.isub, 1) := by decide +kernel
theorem dX5_areSame_32 : decode cX5_areSame 32 = .ok (.iaload, 1) := by decide +kernel
theorem dX5_areSame_33 : decode cX5_areSame 33 = .ok (.if_icmp .eq 5, 3) := by decide +kernel
theorem dX5_areSame_36 : decode cX5_areSame 36 = .ok (.iconst 0, 1) := by decide +kernel
theorem dX5_areSame_37 : decode cX5_areSame 37 = .ok (.ireturn, 1) := by decide +kernel
theorem dX5_areSame_38 : decode cX5_areSame 38 = .ok (.iinc 4 1, 3) := by decide +kernel
theorem dX5_areSame_41 : decode cX5_areSame 41 = .ok (.goto (-26), 3) := by decide +kernel
theorem dX5_areSame_44 : decode cX5_areSame 44 = .ok (.iconst 1, 1) := by decide +kernel
theorem dX5_areSame_45 : decode cX5_areSame 45 = .ok (.ireturn, 1) := by decide +kernel
theorem dX5_unknowns_0 : decode cX5_unknowns 0 = .ok (.iconst 0, 1) := by decide +kernel
theorem dX5_unknowns_1 : decode cX5_unknowns 1 = .ok (.istore_n 1, 1) := by decide +kernel
theorem dX5_unknowns_2 : decode cX5_unknowns 2 = .ok (.aload_n 0, 1) := by decide +kernel
theorem dX5_unknowns_3 : decode cX5_unknowns 3 = .ok (.getfield 24, 3) := by decide +kernel
theorem dX5_unknowns_6 : decode cX5_unknowns 6 = .ok (.astore_n 2, 1) := by decide +kernel
theorem dX5_unknowns_7 : decode cX5_unknowns 7 = .ok (.aload_n 2, 1) := by decide +kernel
theorem dX5_unknowns_8 : decode cX5_unknowns 8 = .ok (.arraylength, 1) := by decide +kernel
theorem dX5_unknowns_9 : decode cX5_unknowns 9 = .ok (.istore_n 3, 1) := by decide +kernel
theorem dX5_unknowns_10 : decode cX5_unknowns 10 = .ok (.iconst 0, 1) := by decide +kernel
theorem dX5_unknowns_11 : decode cX5_unknowns 11 = .ok (.istore 4, 2) := by decide +kernel
theorem dX5_unknowns_13 : decode cX5_unknowns 13 = .ok (.iload 4, 2) := by decide +kernel
theorem dX5_unknowns_15 : decode cX5_unknowns 15 = .ok (.iload_n 3, 1) := by decide +kernel
theorem dX5_unknowns_16 : decode cX5_unknowns 16 = .ok (.if_icmp .ge 22, 3) := by decide +kernel
theorem dX5_unknowns_19 : decode cX5_unknowns 19 = .ok (.aload_n 2, 1) := by decide +kernel
theorem dX5_unknowns_20 : decode cX5_unknowns 20 = .ok (.iload 4, 2) := by decide +kernel
theorem dX5_unknowns_22 : decode cX5_unknowns 22 = .ok (.iaload, 1) := by decide +kernel
theorem dX5_unknowns_23 : decode cX5_unknowns 23 = .ok (.istore 5, 2) := by decide +kernel
theorem dX5_unknowns_25 : decode cX5_unknowns 25 = .ok (.iload_n 1, 1) := by decide +kernel
theorem dX5_unknowns_26 : decode cX5_unknowns 26 = .ok (.iconst 1, 1) := by decide +kernel
theorem dX5_unknowns_27 : decode cX5_unknowns 27 = .ok (.iload 5, 2) := by decide +kernel
theorem dX5_unknowns_29 : decode cX5_unknowns 29 = .ok (.ishl, 1) := by decide +kernel
theorem dX5_unknowns_30 : decode cX5_unknowns 30 = .ok (.ior, 1) := by decide +kernel
theorem dX5_unknowns_31 : decode cX5_unknowns 31 = .ok (.istore_n 1, 1) := by decide +kernel
theorem dX5_unknowns_32 : decode cX5_unknowns 32 = .ok (.iinc 4 1, 3) := by decide +kernel
theorem dX5_unknowns_35 : decode cX5_unknowns 35 = .ok (.goto (-22), 3) := by decide +kernel
theorem dX5_unknowns_38 : decode cX5_unknowns 38 = .ok (.iload_n 1, 1) := by decide +kernel
theorem dX5_unknowns_39 : decode cX5_unknowns 39 = .ok (.ireturn, 1) := by decide +kernel
theorem dX5_standsInZimin_0 : decode cX5_standsInZimin 0 = .ok (.iconst 1, 1) := by decide +kernel
theorem dX5_standsInZimin_1 : decode cX5_standsInZimin 1 = .ok (.aload_n 0, 1) := by decide +kernel
theorem dX5_standsInZimin_2 : decode cX5_standsInZimin 2 = .ok (.invokevirtual 46, 3) := by decide +kernel
theorem dX5_standsInZimin_5 : decode cX5_standsInZimin 5 = .ok (.invokestatic 50, 3) := by decide +kernel
theorem dX5_standsInZimin_8 : decode cX5_standsInZimin 8 = .ok (.ishl, 1) := by decide +kernel
theorem dX5_standsInZimin_9 : decode cX5_standsInZimin 9 = .ok (.iconst 1, 1) := by decide +kernel
theorem dX5_standsInZimin_10 : decode cX5_standsInZimin 10 = .ok (.isub, 1) := by decide +kernel
theorem dX5_standsInZimin_11 : decode cX5_standsInZimin 11 = .ok (.istore_n 1, 1) := by decide +kernel
theorem dX5_standsInZimin_12 : decode cX5_standsInZimin 12 = .ok (.iconst 1, 1) := by decide +kernel
theorem dX5_standsInZimin_13 : decode cX5_standsInZimin 13 = .ok (.istore_n 2, 1) := by decide +kernel
theorem dX5_standsInZimin_14 : decode cX5_standsInZimin 14 = .ok (.iload_n 2, 1) := by decide +kernel
theorem dX5_standsInZimin_15 : decode cX5_standsInZimin 15 = .ok (.iload_n 1, 1) := by decide +kernel
theorem dX5_standsInZimin_16 : decode cX5_standsInZimin 16 = .ok (.if_icmp .gt 30, 3) := by decide +kernel
theorem dX5_standsInZimin_19 : decode cX5_standsInZimin 19 = .ok (.iload_n 2, 1) := by decide +kernel
theorem dX5_standsInZimin_20 : decode cX5_standsInZimin 20 = .ok (.getstatic 56, 3) := by decide +kernel
theorem dX5_standsInZimin_23 : decode cX5_standsInZimin 23 = .ok (.arraylength, 1) := by decide +kernel
theorem dX5_standsInZimin_24 : decode cX5_standsInZimin 24 = .ok (.if_icmp .gt 22, 3) := by decide +kernel
theorem dX5_standsInZimin_27 : decode cX5_standsInZimin 27 = .ok (.aload_n 0, 1) := by decide +kernel
theorem dX5_standsInZimin_28 : decode cX5_standsInZimin 28 = .ok (.getstatic 56, 3) := by decide +kernel
theorem dX5_standsInZimin_31 : decode cX5_standsInZimin 31 = .ok (.iload_n 2, 1) := by decide +kernel
theorem dX5_standsInZimin_32 : decode cX5_standsInZimin 32 = .ok (.invokevirtual 59, 3) := by decide +kernel
theorem dX5_standsInZimin_35 : decode cX5_standsInZimin 35 = .ok (.ifCond .le 5, 3) := by decide +kernel
theorem dX5_standsInZimin_38 : decode cX5_standsInZimin 38 = .ok (.iconst 1, 1) := by decide +kernel
theorem dX5_standsInZimin_39 : decode cX5_standsInZimin 39 = .ok (.ireturn, 1) := by decide +kernel
theorem dX5_standsInZimin_40 : decode cX5_standsInZimin 40 = .ok (.iinc 2 1, 3) := by decide +kernel
theorem dX5_standsInZimin_43 : decode cX5_standsInZimin 43 = .ok (.goto (-29), 3) := by decide +kernel
theorem dX5_standsInZimin_46 : decode cX5_standsInZimin 46 = .ok (.iconst 0, 1) := by decide +kernel
theorem dX5_standsInZimin_47 : decode cX5_standsInZimin 47 = .ok (.ireturn, 1) := by decide +kernel
theorem dX5_seekSteps_0 : decode cX5_seekSteps 0 = .ok (.aload_n 0, 1) := by decide +kernel
theorem dX5_seekSteps_1 : decode cX5_seekSteps 1 = .ok (.aload_n 0, 1) := by decide +kernel
theorem dX5_seekSteps_2 : decode cX5_seekSteps 2 = .ok (.invokevirtual 46, 3) := by decide +kernel
theorem dX5_seekSteps_5 : decode cX5_seekSteps 5 = .ok (.iconst 0, 1) := by decide +kernel
theorem dX5_seekSteps_6 : decode cX5_seekSteps 6 = .ok (.invokevirtual 63, 3) := by decide +kernel
theorem dX5_seekSteps_9 : decode cX5_seekSteps 9 = .ok (.ireturn, 1) := by decide +kernel
theorem dX5_stepAt_0 : decode cX5_stepAt 0 = .ok (.iload_n 1, 1) := by decide +kernel
theorem dX5_stepAt_1 : decode cX5_stepAt 1 = .ok (.ifCond .lt 21, 3) := by decide +kernel
theorem dX5_stepAt_4 : decode cX5_stepAt 4 = .ok (.iload_n 1, 1) := by decide +kernel
theorem dX5_stepAt_5 : decode cX5_stepAt 5 = .ok (.aload_n 0, 1) := by decide +kernel
theorem dX5_stepAt_6 : decode cX5_stepAt 6 = .ok (.getfield 21, 3) := by decide +kernel
theorem dX5_stepAt_9 : decode cX5_stepAt 9 = .ok (.arraylength, 1) := by decide +kernel
theorem dX5_stepAt_10 : decode cX5_stepAt 10 = .ok (.if_icmp .ge 12, 3) := by decide +kernel
theorem dX5_stepAt_13 : decode cX5_stepAt 13 = .ok (.aload_n 0, 1) := by decide +kernel
theorem dX5_stepAt_14 : decode cX5_stepAt 14 = .ok (.getfield 21, 3) := by decide +kernel
theorem dX5_stepAt_17 : decode cX5_stepAt 17 = .ok (.iload_n 1, 1) := by decide +kernel
theorem dX5_stepAt_18 : decode cX5_stepAt 18 = .ok (.iaload, 1) := by decide +kernel
theorem dX5_stepAt_19 : decode cX5_stepAt 19 = .ok (.goto 4, 3) := by decide +kernel
theorem dX5_stepAt_22 : decode cX5_stepAt 22 = .ok (.iconst 0, 1) := by decide +kernel
theorem dX5_stepAt_23 : decode cX5_stepAt 23 = .ok (.ireturn, 1) := by decide +kernel
theorem dX5_takeOff_0 : decode cX5_takeOff 0 = .ok (.iload_n 1, 1) := by decide +kernel
theorem dX5_takeOff_1 : decode cX5_takeOff 1 = .ok (.ifCond .eq 12, 3) := by decide +kernel
theorem dX5_takeOff_4 : decode cX5_takeOff 4 = .ok (.iload_n 2, 1) := by decide +kernel
theorem dX5_takeOff_5 : decode cX5_takeOff 5 = .ok (.aload_n 0, 1) := by decide +kernel
theorem dX5_takeOff_6 : decode cX5_takeOff 6 = .ok (.getfield 21, 3) := by decide +kernel
theorem dX5_takeOff_9 : decode cX5_takeOff 9 = .ok (.arraylength, 1) := by decide +kernel
theorem dX5_takeOff_10 : decode cX5_takeOff 10 = .ok (.if_icmp .lt 13, 3) := by decide +kernel
theorem dX5_takeOff_13 : decode cX5_takeOff 13 = .ok (.iload_n 1, 1) := by decide +kernel
theorem dX5_takeOff_14 : decode cX5_takeOff 14 = .ok (.ifCond .ne 7, 3) := by decide +kernel
theorem dX5_takeOff_17 : decode cX5_takeOff 17 = .ok (.iload_n 2, 1) := by decide +kernel
theorem dX5_takeOff_18 : decode cX5_takeOff 18 = .ok (.goto 4, 3) := by decide +kernel
theorem dX5_takeOff_21 : decode cX5_takeOff 21 = .ok (.iconst 0, 1) := by decide +kernel
theorem dX5_takeOff_22 : decode cX5_takeOff 22 = .ok (.ireturn, 1) := by decide +kernel
theorem dX5_takeOff_23 : decode cX5_takeOff 23 = .ok (.iconst 1, 1) := by decide +kernel
theorem dX5_takeOff_24 : decode cX5_takeOff 24 = .ok (.istore_n 3, 1) := by decide +kernel
theorem dX5_takeOff_25 : decode cX5_takeOff 25 = .ok (.iload_n 3, 1) := by decide +kernel
theorem dX5_takeOff_26 : decode cX5_takeOff 26 = .ok (.iload_n 1, 1) := by decide +kernel
theorem dX5_takeOff_27 : decode cX5_takeOff 27 = .ok (.if_icmp .gt 55, 3) := by decide +kernel
theorem dX5_takeOff_30 : decode cX5_takeOff 30 = .ok (.iload_n 3, 1) := by decide +kernel
theorem dX5_takeOff_31 : decode cX5_takeOff 31 = .ok (.iload_n 1, 1) := by decide +kernel
theorem dX5_takeOff_32 : decode cX5_takeOff 32 = .ok (.iconst (-1), 1) := by decide +kernel
theorem dX5_takeOff_33 : decode cX5_takeOff 33 = .ok (.ixor, 1) := by decide +kernel
theorem dX5_takeOff_34 : decode cX5_takeOff 34 = .ok (.iand, 1) := by decide +kernel
theorem dX5_takeOff_35 : decode cX5_takeOff 35 = .ok (.ifCond .ne 41, 3) := by decide +kernel
theorem dX5_takeOff_38 : decode cX5_takeOff 38 = .ok (.aload_n 0, 1) := by decide +kernel
theorem dX5_takeOff_39 : decode cX5_takeOff 39 = .ok (.iload_n 3, 1) := by decide +kernel
theorem dX5_takeOff_40 : decode cX5_takeOff 40 = .ok (.iload_n 1, 1) := by decide +kernel
theorem dX5_takeOff_41 : decode cX5_takeOff 41 = .ok (.invokevirtual 67, 3) := by decide +kernel
theorem dX5_takeOff_44 : decode cX5_takeOff 44 = .ok (.ifCond .eq 32, 3) := by decide +kernel
theorem dX5_takeOff_47 : decode cX5_takeOff 47 = .ok (.aload_n 0, 1) := by decide +kernel
theorem dX5_takeOff_48 : decode cX5_takeOff 48 = .ok (.getfield 21, 3) := by decide +kernel
theorem dX5_takeOff_51 : decode cX5_takeOff 51 = .ok (.iload_n 2, 1) := by decide +kernel
theorem dX5_takeOff_52 : decode cX5_takeOff 52 = .ok (.iload_n 3, 1) := by decide +kernel
theorem dX5_takeOff_53 : decode cX5_takeOff 53 = .ok (.iastore, 1) := by decide +kernel
theorem dX5_takeOff_54 : decode cX5_takeOff 54 = .ok (.aload_n 0, 1) := by decide +kernel
theorem dX5_takeOff_55 : decode cX5_takeOff 55 = .ok (.iload_n 1, 1) := by decide +kernel
theorem dX5_takeOff_56 : decode cX5_takeOff 56 = .ok (.iload_n 3, 1) := by decide +kernel
theorem dX5_takeOff_57 : decode cX5_takeOff 57 = .ok (.iconst (-1), 1) := by decide +kernel
theorem dX5_takeOff_58 : decode cX5_takeOff 58 = .ok (.ixor, 1) := by decide +kernel
theorem dX5_takeOff_59 : decode cX5_takeOff 59 = .ok (.iand, 1) := by decide +kernel
theorem dX5_takeOff_60 : decode cX5_takeOff 60 = .ok (.iload_n 2, 1) := by decide +kernel
theorem dX5_takeOff_61 : decode cX5_takeOff 61 = .ok (.iconst 1, 1) := by decide +kernel
theorem dX5_takeOff_62 : decode cX5_takeOff 62 = .ok (.iadd, 1) := by decide +kernel
theorem dX5_takeOff_63 : decode cX5_takeOff 63 = .ok (.invokevirtual 63, 3) := by decide +kernel
theorem dX5_takeOff_66 : decode cX5_takeOff 66 = .ok (.istore 4, 2) := by decide +kernel
theorem dX5_takeOff_68 : decode cX5_takeOff 68 = .ok (.iload 4, 2) := by decide +kernel
theorem dX5_takeOff_70 : decode cX5_takeOff 70 = .ok (.ifCond .le 6, 3) := by decide +kernel
theorem dX5_takeOff_73 : decode cX5_takeOff 73 = .ok (.iload 4, 2) := by decide +kernel
theorem dX5_takeOff_75 : decode cX5_takeOff 75 = .ok (.ireturn, 1) := by decide +kernel
theorem dX5_takeOff_76 : decode cX5_takeOff 76 = .ok (.iinc 3 1, 3) := by decide +kernel
theorem dX5_takeOff_79 : decode cX5_takeOff 79 = .ok (.goto (-54), 3) := by decide +kernel
theorem dX5_takeOff_82 : decode cX5_takeOff 82 = .ok (.iconst 0, 1) := by decide +kernel
theorem dX5_takeOff_83 : decode cX5_takeOff 83 = .ok (.ireturn, 1) := by decide +kernel
theorem dX5_isLoose_0 : decode cX5_isLoose 0 = .ok (.iload_n 1, 1) := by decide +kernel
theorem dX5_isLoose_1 : decode cX5_isLoose 1 = .ok (.istore_n 3, 1) := by decide +kernel
theorem dX5_isLoose_2 : decode cX5_isLoose 2 = .ok (.iconst 0, 1) := by decide +kernel
theorem dX5_isLoose_3 : decode cX5_isLoose 3 = .ok (.istore 4, 2) := by decide +kernel
theorem dX5_isLoose_5 : decode cX5_isLoose 5 = .ok (.iload 4, 2) := by decide +kernel
theorem dX5_isLoose_7 : decode cX5_isLoose 7 = .ok (.bipush 6, 2) := by decide +kernel
theorem dX5_isLoose_9 : decode cX5_isLoose 9 = .ok (.if_icmp .ge 16, 3) := by decide +kernel
theorem dX5_isLoose_12 : decode cX5_isLoose 12 = .ok (.aload_n 0, 1) := by decide +kernel
theorem dX5_isLoose_13 : decode cX5_isLoose 13 = .ok (.iload_n 3, 1) := by decide +kernel
theorem dX5_isLoose_14 : decode cX5_isLoose 14 = .ok (.iload_n 2, 1) := by decide +kernel
theorem dX5_isLoose_15 : decode cX5_isLoose 15 = .ok (.invokevirtual 71, 3) := by decide +kernel
theorem dX5_isLoose_18 : decode cX5_isLoose 18 = .ok (.istore_n 3, 1) := by decide +kernel
theorem dX5_isLoose_19 : decode cX5_isLoose 19 = .ok (.iinc 4 1, 3) := by decide +kernel
theorem dX5_isLoose_22 : decode cX5_isLoose 22 = .ok (.goto (-17), 3) := by decide +kernel
theorem dX5_isLoose_25 : decode cX5_isLoose 25 = .ok (.iload_n 3, 1) := by decide +kernel
theorem dX5_isLoose_26 : decode cX5_isLoose 26 = .ok (.iconst 3, 1) := by decide +kernel
theorem dX5_isLoose_27 : decode cX5_isLoose 27 = .ok (.ishr, 1) := by decide +kernel
theorem dX5_isLoose_28 : decode cX5_isLoose 28 = .ok (.iload_n 1, 1) := by decide +kernel
theorem dX5_isLoose_29 : decode cX5_isLoose 29 = .ok (.iand, 1) := by decide +kernel
theorem dX5_isLoose_30 : decode cX5_isLoose 30 = .ok (.ifCond .ne 7, 3) := by decide +kernel
theorem dX5_isLoose_33 : decode cX5_isLoose 33 = .ok (.iconst 1, 1) := by decide +kernel
theorem dX5_isLoose_34 : decode cX5_isLoose 34 = .ok (.goto 4, 3) := by decide +kernel
theorem dX5_isLoose_37 : decode cX5_isLoose 37 = .ok (.iconst 0, 1) := by decide +kernel
theorem dX5_isLoose_38 : decode cX5_isLoose 38 = .ok (.ireturn, 1) := by decide +kernel
theorem dX5_reachOn_0 : decode cX5_reachOn 0 = .ok (.iconst 0, 1) := by decide +kernel
theorem dX5_reachOn_1 : decode cX5_reachOn 1 = .ok (.istore_n 3, 1) := by decide +kernel
theorem dX5_reachOn_2 : decode cX5_reachOn 2 = .ok (.aload_n 0, 1) := by decide +kernel
theorem dX5_reachOn_3 : decode cX5_reachOn 3 = .ok (.getfield 24, 3) := by decide +kernel
theorem dX5_reachOn_6 : decode cX5_reachOn 6 = .ok (.astore 4, 2) := by decide +kernel
theorem dX5_reachOn_8 : decode cX5_reachOn 8 = .ok (.aload 4, 2) := by decide +kernel
theorem dX5_reachOn_10 : decode cX5_reachOn 10 = .ok (.arraylength, 1) := by decide +kernel
theorem dX5_reachOn_11 : decode cX5_reachOn 11 = .ok (.istore 5, 2) := by decide +kernel
theorem dX5_reachOn_13 : decode cX5_reachOn 13 = .ok (.iconst 0, 1) := by decide +kernel
theorem dX5_reachOn_14 : decode cX5_reachOn 14 = .ok (.istore 6, 2) := by decide +kernel
theorem dX5_reachOn_16 : decode cX5_reachOn 16 = .ok (.iload 6, 2) := by decide +kernel
theorem dX5_reachOn_18 : decode cX5_reachOn 18 = .ok (.iload 5, 2) := by decide +kernel
theorem dX5_reachOn_20 : decode cX5_reachOn 20 = .ok (.if_icmp .ge 59, 3) := by decide +kernel
theorem dX5_reachOn_23 : decode cX5_reachOn 23 = .ok (.aload 4, 2) := by decide +kernel
theorem dX5_reachOn_25 : decode cX5_reachOn 25 = .ok (.iload 6, 2) := by decide +kernel
theorem dX5_reachOn_27 : decode cX5_reachOn 27 = .ok (.iaload, 1) := by decide +kernel
theorem dX5_reachOn_28 : decode cX5_reachOn 28 = .ok (.istore 7, 2) := by decide +kernel
theorem dX5_reachOn_30 : decode cX5_reachOn 30 = .ok (.iload_n 2, 1) := by decide +kernel
theorem dX5_reachOn_31 : decode cX5_reachOn 31 = .ok (.iload 7, 2) := by decide +kernel
theorem dX5_reachOn_33 : decode cX5_reachOn 33 = .ok (.ishr, 1) := by decide +kernel
theorem dX5_reachOn_34 : decode cX5_reachOn 34 = .ok (.iconst 1, 1) := by decide +kernel
theorem dX5_reachOn_35 : decode cX5_reachOn 35 = .ok (.iand, 1) := by decide +kernel
theorem dX5_reachOn_36 : decode cX5_reachOn 36 = .ok (.ifCond .ne 6, 3) := by decide +kernel
theorem dX5_reachOn_39 : decode cX5_reachOn 39 = .ok (.goto 34, 3) := by decide +kernel
theorem dX5_reachOn_42 : decode cX5_reachOn 42 = .ok (.iload_n 3, 1) := by decide +kernel
theorem dX5_reachOn_43 : decode cX5_reachOn 43 = .ok (.iconst 1, 1) := by decide +kernel
theorem dX5_reachOn_44 : decode cX5_reachOn 44 = .ok (.iload 7, 2) := by decide +kernel
theorem dX5_reachOn_46 : decode cX5_reachOn 46 = .ok (.iconst 3, 1) := by decide +kernel
theorem dX5_reachOn_47 : decode cX5_reachOn 47 = .ok (.iadd, 1) := by decide +kernel
theorem dX5_reachOn_48 : decode cX5_reachOn 48 = .ok (.ishl, 1) := by decide +kernel
theorem dX5_reachOn_49 : decode cX5_reachOn 49 = .ok (.ior, 1) := by decide +kernel
theorem dX5_reachOn_50 : decode cX5_reachOn 50 = .ok (.istore 8, 2) := by decide +kernel
theorem dX5_reachOn_52 : decode cX5_reachOn 52 = .ok (.iload_n 3, 1) := by decide +kernel
theorem dX5_reachOn_53 : decode cX5_reachOn 53 = .ok (.ifCond .eq 15, 3) := by decide +kernel
theorem dX5_reachOn_56 : decode cX5_reachOn 56 = .ok (.iload_n 1, 1) := by decide +kernel
theorem dX5_reachOn_57 : decode cX5_reachOn 57 = .ok (.iload 8, 2) := by decide +kernel
theorem dX5_reachOn_59 : decode cX5_reachOn 59 = .ok (.iand, 1) := by decide +kernel
theorem dX5_reachOn_60 : decode cX5_reachOn 60 = .ok (.ifCond .eq 8, 3) := by decide +kernel
theorem dX5_reachOn_63 : decode cX5_reachOn 63 = .ok (.iload_n 1, 1) := by decide +kernel
theorem dX5_reachOn_64 : decode cX5_reachOn 64 = .ok (.iload 8, 2) := by decide +kernel
theorem dX5_reachOn_66 : decode cX5_reachOn 66 = .ok (.ior, 1) := by decide +kernel
theorem dX5_reachOn_67 : decode cX5_reachOn 67 = .ok (.istore_n 1, 1) := by decide +kernel
theorem dX5_reachOn_68 : decode cX5_reachOn 68 = .ok (.iconst 1, 1) := by decide +kernel
theorem dX5_reachOn_69 : decode cX5_reachOn 69 = .ok (.iload 7, 2) := by decide +kernel
theorem dX5_reachOn_71 : decode cX5_reachOn 71 = .ok (.ishl, 1) := by decide +kernel
theorem dX5_reachOn_72 : decode cX5_reachOn 72 = .ok (.istore_n 3, 1) := by decide +kernel
theorem dX5_reachOn_73 : decode cX5_reachOn 73 = .ok (.iinc 6 1, 3) := by decide +kernel
theorem dX5_reachOn_76 : decode cX5_reachOn 76 = .ok (.goto (-60), 3) := by decide +kernel
theorem dX5_reachOn_79 : decode cX5_reachOn 79 = .ok (.iload_n 1, 1) := by decide +kernel
theorem dX5_reachOn_80 : decode cX5_reachOn 80 = .ok (.ireturn, 1) := by decide +kernel
theorem dX6_init_0 : decode cX6_init 0 = .ok (.aload_n 0, 1) := by decide +kernel
theorem dX6_init_1 : decode cX6_init 1 = .ok (.invokespecial 3, 3) := by decide +kernel
theorem dX6_init_4 : decode cX6_init 4 = .ok (.aload_n 0, 1) := by decide +kernel
theorem dX6_init_5 : decode cX6_init 5 = .ok (.sipush 800, 3) := by decide +kernel
theorem dX6_init_8 : decode cX6_init 8 = .ok (.newarray .int, 2) := by decide +kernel
theorem dX6_init_10 : decode cX6_init 10 = .ok (.putfield 9, 3) := by decide +kernel
theorem dX6_init_13 : decode cX6_init 13 = .ok (.aload_n 0, 1) := by decide +kernel
theorem dX6_init_14 : decode cX6_init 14 = .ok (.bipush 10, 2) := by decide +kernel
theorem dX6_init_16 : decode cX6_init 16 = .ok (.newarray .int, 2) := by decide +kernel
theorem dX6_init_18 : decode cX6_init 18 = .ok (.putfield 15, 3) := by decide +kernel
theorem dX6_init_21 : decode cX6_init 21 = .ok (.aload_n 0, 1) := by decide +kernel
theorem dX6_init_22 : decode cX6_init 22 = .ok (.iload_n 1, 1) := by decide +kernel
theorem dX6_init_23 : decode cX6_init 23 = .ok (.putfield 18, 3) := by decide +kernel
theorem dX6_init_26 : decode cX6_init 26 = .ok (.aload_n 0, 1) := by decide +kernel
theorem dX6_init_27 : decode cX6_init 27 = .ok (.getfield 15, 3) := by decide +kernel
theorem dX6_init_30 : decode cX6_init 30 = .ok (.iconst (-1), 1) := by decide +kernel
theorem dX6_init_31 : decode cX6_init 31 = .ok (.invokestatic 22, 3) := by decide +kernel
theorem dX6_init_34 : decode cX6_init 34 = .ok (.return_, 1) := by decide +kernel
theorem dX6_sizeOf_0 : decode cX6_sizeOf 0 = .ok (.aload_n 0, 1) := by decide +kernel
theorem dX6_sizeOf_1 : decode cX6_sizeOf 1 = .ok (.getfield 15, 3) := by decide +kernel
theorem dX6_sizeOf_4 : decode cX6_sizeOf 4 = .ok (.iload_n 1, 1) := by decide +kernel
theorem dX6_sizeOf_5 : decode cX6_sizeOf 5 = .ok (.iaload, 1) := by decide +kernel
theorem dX6_sizeOf_6 : decode cX6_sizeOf 6 = .ok (.ireturn, 1) := by decide +kernel
theorem dX6_renew_0 : decode cX6_renew 0 = .ok (.aload_n 0, 1) := by decide +kernel
theorem dX6_renew_1 : decode cX6_renew 1 = .ok (.getfield 9, 3) := by decide +kernel
theorem dX6_renew_4 : decode cX6_renew 4 = .ok (.iload_n 1, 1) := by decide +kernel
theorem dX6_renew_5 : decode cX6_renew 5 = .ok (.bipush 80, 2) := by decide +kernel
theorem dX6_renew_7 : decode cX6_renew 7 = .ok (.imul, 1) := by decide +kernel
theorem dX6_renew_8 : decode cX6_renew 8 = .ok (.iload_n 1, 1) := by decide +kernel
theorem dX6_renew_9 : decode cX6_renew 9 = .ok (.bipush 80, 2) := by decide +kernel
theorem dX6_renew_11 : decode cX6_renew 11 = .ok (.imul, 1) := by decide +kernel
theorem dX6_renew_12 : decode cX6_renew 12 = .ok (.iload_n 2, 1) := by decide +kernel
theorem dX6_renew_13 : decode cX6_renew 13 = .ok (.iadd, 1) := by decide +kernel
theorem dX6_renew_14 : decode cX6_renew 14 = .ok (.iconst 0, 1) := by decide +kernel
theorem dX6_renew_15 : decode cX6_renew 15 = .ok (.invokestatic 28, 3) := by decide +kernel
theorem dX6_renew_18 : decode cX6_renew 18 = .ok (.aload_n 0, 1) := by decide +kernel
theorem dX6_renew_19 : decode cX6_renew 19 = .ok (.getfield 15, 3) := by decide +kernel
theorem dX6_renew_22 : decode cX6_renew 22 = .ok (.iload_n 1, 1) := by decide +kernel
theorem dX6_renew_23 : decode cX6_renew 23 = .ok (.iload_n 2, 1) := by decide +kernel
theorem dX6_renew_24 : decode cX6_renew 24 = .ok (.iastore, 1) := by decide +kernel
theorem dX6_renew_25 : decode cX6_renew 25 = .ok (.return_, 1) := by decide +kernel
theorem dX6_write_0 : decode cX6_write 0 = .ok (.aload_n 0, 1) := by decide +kernel
theorem dX6_write_1 : decode cX6_write 1 = .ok (.getfield 9, 3) := by decide +kernel
theorem dX6_write_4 : decode cX6_write 4 = .ok (.iload_n 1, 1) := by decide +kernel
theorem dX6_write_5 : decode cX6_write 5 = .ok (.bipush 80, 2) := by decide +kernel
theorem dX6_write_7 : decode cX6_write 7 = .ok (.imul, 1) := by decide +kernel
theorem dX6_write_8 : decode cX6_write 8 = .ok (.iload_n 2, 1) := by decide +kernel
theorem dX6_write_9 : decode cX6_write 9 = .ok (.iadd, 1) := by decide +kernel
theorem dX6_write_10 : decode cX6_write 10 = .ok (.aload_n 0, 1) := by decide +kernel
theorem dX6_write_11 : decode cX6_write 11 = .ok (.getfield 18, 3) := by decide +kernel
theorem dX6_write_14 : decode cX6_write 14 = .ok (.ifCond .ne 8, 3) := by decide +kernel
theorem dX6_write_17 : decode cX6_write 17 = .ok (.iload_n 3, 1) := by decide +kernel
theorem dX6_write_18 : decode cX6_write 18 = .ok (.i2b, 1) := by decide +kernel
theorem dX6_write_19 : decode cX6_write 19 = .ok (.goto 17, 3) := by decide +kernel
theorem dX6_write_22 : decode cX6_write 22 = .ok (.aload_n 0, 1) := by decide +kernel
theorem dX6_write_23 : decode cX6_write 23 = .ok (.getfield 18, 3) := by decide +kernel
theorem dX6_write_26 : decode cX6_write 26 = .ok (.iconst 1, 1) := by decide +kernel
theorem dX6_write_27 : decode cX6_write 27 = .ok (.if_icmp .ne 8, 3) := by decide +kernel
theorem dX6_write_30 : decode cX6_write 30 = .ok (.iload_n 3, 1) := by decide +kernel
theorem dX6_write_31 : decode cX6_write 31 = .ok (.i2s, 1) := by decide +kernel
theorem dX6_write_32 : decode cX6_write 32 = .ok (.goto 4, 3) := by decide +kernel
theorem dX6_write_35 : decode cX6_write 35 = .ok (.iload_n 3, 1) := by decide +kernel
theorem dX6_write_36 : decode cX6_write 36 = .ok (.iastore, 1) := by decide +kernel
theorem dX6_write_37 : decode cX6_write 37 = .ok (.return_, 1) := by decide +kernel
theorem dX6_drop_0 : decode cX6_drop 0 = .ok (.aload_n 0, 1) := by decide +kernel
theorem dX6_drop_1 : decode cX6_drop 1 = .ok (.getfield 15, 3) := by decide +kernel
theorem dX6_drop_4 : decode cX6_drop 4 = .ok (.iload_n 1, 1) := by decide +kernel
theorem dX6_drop_5 : decode cX6_drop 5 = .ok (.iaload, 1) := by decide +kernel
theorem dX6_drop_6 : decode cX6_drop 6 = .ok (.istore_n 2, 1) := by decide +kernel
theorem dX6_drop_7 : decode cX6_drop 7 = .ok (.aload_n 0, 1) := by decide +kernel
theorem dX6_drop_8 : decode cX6_drop 8 = .ok (.getfield 15, 3) := by decide +kernel
theorem dX6_drop_11 : decode cX6_drop 11 = .ok (.iload_n 1, 1) := by decide +kernel
theorem dX6_drop_12 : decode cX6_drop 12 = .ok (.iconst (-1), 1) := by decide +kernel
theorem dX6_drop_13 : decode cX6_drop 13 = .ok (.iastore, 1) := by decide +kernel
theorem dX6_drop_14 : decode cX6_drop 14 = .ok (.iload_n 2, 1) := by decide +kernel
theorem dX6_drop_15 : decode cX6_drop 15 = .ok (.ireturn, 1) := by decide +kernel
theorem dX6_copyIn_0 : decode cX6_copyIn 0 = .ok (.aload_n 2, 1) := by decide +kernel
theorem dX6_copyIn_1 : decode cX6_copyIn 1 = .ok (.iconst 0, 1) := by decide +kernel
theorem dX6_copyIn_2 : decode cX6_copyIn 2 = .ok (.aload_n 0, 1) := by decide +kernel
theorem dX6_copyIn_3 : decode cX6_copyIn 3 = .ok (.getfield 9, 3) := by decide +kernel
theorem dX6_copyIn_6 : decode cX6_copyIn 6 = .ok (.iload_n 1, 1) := by decide +kernel
theorem dX6_copyIn_7 : decode cX6_copyIn 7 = .ok (.bipush 80, 2) := by decide +kernel
theorem dX6_copyIn_9 : decode cX6_copyIn 9 = .ok (.imul, 1) := by decide +kernel
theorem dX6_copyIn_10 : decode cX6_copyIn 10 = .ok (.iload_n 3, 1) := by decide +kernel
theorem dX6_copyIn_11 : decode cX6_copyIn 11 = .ok (.invokestatic 31, 3) := by decide +kernel
theorem dX6_copyIn_14 : decode cX6_copyIn 14 = .ok (.aload_n 0, 1) := by decide +kernel
theorem dX6_copyIn_15 : decode cX6_copyIn 15 = .ok (.getfield 15, 3) := by decide +kernel
theorem dX6_copyIn_18 : decode cX6_copyIn 18 = .ok (.iload_n 1, 1) := by decide +kernel
theorem dX6_copyIn_19 : decode cX6_copyIn 19 = .ok (.iload_n 3, 1) := by decide +kernel
theorem dX6_copyIn_20 : decode cX6_copyIn 20 = .ok (.iastore, 1) := by decide +kernel
theorem dX6_copyIn_21 : decode cX6_copyIn 21 = .ok (.return_, 1) := by decide +kernel
theorem dX6_readInto_0 : decode cX6_readInto 0 = .ok (.aload_n 0, 1) := by decide +kernel
theorem dX6_readInto_1 : decode cX6_readInto 1 = .ok (.getfield 15, 3) := by decide +kernel
theorem dX6_readInto_4 : decode cX6_readInto 4 = .ok (.iload_n 1, 1) := by decide +kernel
theorem dX6_readInto_5 : decode cX6_readInto 5 = .ok (.iaload, 1) := by decide +kernel
theorem dX6_readInto_6 : decode cX6_readInto 6 = .ok (.iconst 0, 1) := by decide +kernel
theorem dX6_readInto_7 : decode cX6_readInto 7 = .ok (.invokestatic 37, 3) := by decide +kernel
theorem dX6_readInto_10 : decode cX6_readInto 10 = .ok (.istore_n 3, 1) := by decide +kernel
theorem dX6_readInto_11 : decode cX6_readInto 11 = .ok (.iload_n 3, 1) := by decide +kernel
theorem dX6_readInto_12 : decode cX6_readInto 12 = .ok (.bipush 60, 2) := by decide +kernel
theorem dX6_readInto_14 : decode cX6_readInto 14 = .ok (.if_icmp .gt 9, 3) := by decide +kernel
theorem dX6_readInto_17 : decode cX6_readInto 17 = .ok (.iload_n 3, 1) := by decide +kernel
theorem dX6_readInto_18 : decode cX6_readInto 18 = .ok (.aload_n 2, 1) := by decide +kernel
theorem dX6_readInto_19 : decode cX6_readInto 19 = .ok (.arraylength, 1) := by decide +kernel
theorem dX6_readInto_20 : decode cX6_readInto 20 = .ok (.if_icmp .le 5, 3) := by decide +kernel
theorem dX6_readInto_23 : decode cX6_readInto 23 = .ok (.iconst (-1), 1) := by decide +kernel
theorem dX6_readInto_24 : decode cX6_readInto 24 = .ok (.ireturn, 1) := by decide +kernel
theorem dX6_readInto_25 : decode cX6_readInto 25 = .ok (.iconst 0, 1) := by decide +kernel
theorem dX6_readInto_26 : decode cX6_readInto 26 = .ok (.istore 4, 2) := by decide +kernel
theorem dX6_readInto_28 : decode cX6_readInto 28 = .ok (.iload 4, 2) := by decide +kernel
theorem dX6_readInto_30 : decode cX6_readInto 30 = .ok (.iload_n 3, 1) := by decide +kernel
theorem dX6_readInto_31 : decode cX6_readInto 31 = .ok (.if_icmp .ge 43, 3) := by decide +kernel
theorem dX6_readInto_34 : decode cX6_readInto 34 = .ok (.aload_n 2, 1) := by decide +kernel
theorem dX6_readInto_35 : decode cX6_readInto 35 = .ok (.iload 4, 2) := by decide +kernel
theorem dX6_readInto_37 : decode cX6_readInto 37 = .ok (.aload_n 0, 1) := by decide +kernel
theorem dX6_readInto_38 : decode cX6_readInto 38 = .ok (.getfield 9, 3) := by decide +kernel
theorem dX6_readInto_41 : decode cX6_readInto 41 = .ok (.iload_n 1, 1) := by decide +kernel
theorem dX6_readInto_42 : decode cX6_readInto 42 = .ok (.bipush 80, 2) := by decide +kernel
theorem dX6_readInto_44 : decode cX6_readInto 44 = .ok (.imul, 1) := by decide +kernel
theorem dX6_readInto_45 : decode cX6_readInto 45 = .ok (.iload 4, 2) := by decide +kernel
theorem dX6_readInto_47 : decode cX6_readInto 47 = .ok (.iadd, 1) := by decide +kernel
theorem dX6_readInto_48 : decode cX6_readInto 48 = .ok (.iaload, 1) := by decide +kernel
theorem dX6_readInto_49 : decode cX6_readInto 49 = .ok (.iastore, 1) := by decide +kernel
theorem dX6_readInto_50 : decode cX6_readInto 50 = .ok (.aload_n 2, 1) := by decide +kernel
theorem dX6_readInto_51 : decode cX6_readInto 51 = .ok (.iload 4, 2) := by decide +kernel
theorem dX6_readInto_53 : decode cX6_readInto 53 = .ok (.iaload, 1) := by decide +kernel
theorem dX6_readInto_54 : decode cX6_readInto 54 = .ok (.ifCond .lt 12, 3) := by decide +kernel
theorem dX6_readInto_57 : decode cX6_readInto 57 = .ok (.aload_n 2, 1) := by decide +kernel
theorem dX6_readInto_58 : decode cX6_readInto 58 = .ok (.iload 4, 2) := by decide +kernel
theorem dX6_readInto_60 : decode cX6_readInto 60 = .ok (.iaload, 1) := by decide +kernel
theorem dX6_readInto_61 : decode cX6_readInto 61 = .ok (.bipush 8, 2) := by decide +kernel
theorem dX6_readInto_63 : decode cX6_readInto 63 = .ok (.if_icmp .lt 5, 3) := by decide +kernel
theorem dX6_readInto_66 : decode cX6_readInto 66 = .ok (.iconst (-1), 1) := by decide +kernel
theorem dX6_readInto_67 : decode cX6_readInto 67 = .ok (.ireturn, 1) := by decide +kernel
theorem dX6_readInto_68 : decode cX6_readInto 68 = .ok (.iinc 4 1, 3) := by decide +kernel
theorem dX6_readInto_71 : decode cX6_readInto 71 = .ok (.goto (-43), 3) := by decide +kernel
theorem dX6_readInto_74 : decode cX6_readInto 74 = .ok (.iload_n 3, 1) := by decide +kernel
theorem dX6_readInto_75 : decode cX6_readInto 75 = .ok (.ireturn, 1) := by decide +kernel
theorem dX7_init_0 : decode cX7_init 0 = .ok (.aload_n 0, 1) := by decide +kernel
theorem dX7_init_1 : decode cX7_init 1 = .ok (.invokespecial 1, 3) := by decide +kernel
theorem dX7_init_4 : decode cX7_init 4 = .ok (.aload_n 0, 1) := by decide +kernel
theorem dX7_init_5 : decode cX7_init 5 = .ok (.aload_n 1, 1) := by decide +kernel
theorem dX7_init_6 : decode cX7_init 6 = .ok (.putfield 7, 3) := by decide +kernel
theorem dX7_init_9 : decode cX7_init 9 = .ok (.return_, 1) := by decide +kernel
theorem dX7_shortest_0 : decode cX7_shortest 0 = .ok (.aload_n 0, 1) := by decide +kernel
theorem dX7_shortest_1 : decode cX7_shortest 1 = .ok (.getfield 7, 3) := by decide +kernel
theorem dX7_shortest_4 : decode cX7_shortest 4 = .ok (.arraylength, 1) := by decide +kernel
theorem dX7_shortest_5 : decode cX7_shortest 5 = .ok (.iload_n 2, 1) := by decide +kernel
theorem dX7_shortest_6 : decode cX7_shortest 6 = .ok (.if_icmp .le 5, 3) := by decide +kernel
theorem dX7_shortest_9 : decode cX7_shortest 9 = .ok (.iconst 0, 1) := by decide +kernel
theorem dX7_shortest_10 : decode cX7_shortest 10 = .ok (.ireturn, 1) := by decide +kernel
theorem dX7_shortest_11 : decode cX7_shortest 11 = .ok (.iconst 1, 1) := by decide +kernel
theorem dX7_shortest_12 : decode cX7_shortest 12 = .ok (.istore_n 3, 1) := by decide +kernel
theorem dX7_shortest_13 : decode cX7_shortest 13 = .ok (.iload_n 3, 1) := by decide +kernel
theorem dX7_shortest_14 : decode cX7_shortest 14 = .ok (.aload_n 0, 1) := by decide +kernel
theorem dX7_shortest_15 : decode cX7_shortest 15 = .ok (.getfield 7, 3) := by decide +kernel
theorem dX7_shortest_18 : decode cX7_shortest 18 = .ok (.arraylength, 1) := by decide +kernel
theorem dX7_shortest_19 : decode cX7_shortest 19 = .ok (.if_icmp .gt 31, 3) := by decide +kernel
theorem dX7_shortest_22 : decode cX7_shortest 22 = .ok (.aload_n 0, 1) := by decide +kernel
theorem dX7_shortest_23 : decode cX7_shortest 23 = .ok (.getfield 7, 3) := by decide +kernel
theorem dX7_shortest_26 : decode cX7_shortest 26 = .ok (.aload_n 0, 1) := by decide +kernel
theorem dX7_shortest_27 : decode cX7_shortest 27 = .ok (.getfield 7, 3) := by decide +kernel
theorem dX7_shortest_30 : decode cX7_shortest 30 = .ok (.arraylength, 1) := by decide +kernel
theorem dX7_shortest_31 : decode cX7_shortest 31 = .ok (.iload_n 3, 1) := by decide +kernel
theorem dX7_shortest_32 : decode cX7_shortest 32 = .ok (.isub, 1) := by decide +kernel
theorem dX7_shortest_33 : decode cX7_shortest 33 = .ok (.iaload, 1) := by decide +kernel
theorem dX7_shortest_34 : decode cX7_shortest 34 = .ok (.aload_n 1, 1) := by decide +kernel
theorem dX7_shortest_35 : decode cX7_shortest 35 = .ok (.iload_n 2, 1) := by decide +kernel
theorem dX7_shortest_36 : decode cX7_shortest 36 = .ok (.iload_n 3, 1) := by decide +kernel
theorem dX7_shortest_37 : decode cX7_shortest 37 = .ok (.isub, 1) := by decide +kernel
theorem dX7_shortest_38 : decode cX7_shortest 38 = .ok (.iaload, 1) := by decide +kernel
theorem dX7_shortest_39 : decode cX7_shortest 39 = .ok (.if_icmp .eq 5, 3) := by decide +kernel
theorem dX7_shortest_42 : decode cX7_shortest 42 = .ok (.iconst 0, 1) := by decide +kernel
theorem dX7_shortest_43 : decode cX7_shortest 43 = .ok (.ireturn, 1) := by decide +kernel
theorem dX7_shortest_44 : decode cX7_shortest 44 = .ok (.iinc 3 1, 3) := by decide +kernel
theorem dX7_shortest_47 : decode cX7_shortest 47 = .ok (.goto (-34), 3) := by decide +kernel
theorem dX7_shortest_50 : decode cX7_shortest 50 = .ok (.aload_n 0, 1) := by decide +kernel
theorem dX7_shortest_51 : decode cX7_shortest 51 = .ok (.getfield 7, 3) := by decide +kernel
theorem dX7_shortest_54 : decode cX7_shortest 54 = .ok (.arraylength, 1) := by decide +kernel
theorem dX7_shortest_55 : decode cX7_shortest 55 = .ok (.ireturn, 1) := by decide +kernel
theorem dX8_init_0 : decode cX8_init 0 = .ok (.aload_n 0, 1) := by decide +kernel
theorem dX8_init_1 : decode cX8_init 1 = .ok (.invokespecial 1, 3) := by decide +kernel
theorem dX8_init_4 : decode cX8_init 4 = .ok (.return_, 1) := by decide +kernel
theorem dX8_shortest_0 : decode cX8_shortest 0 = .ok (.lconst 0, 1) := by decide +kernel
theorem dX8_shortest_1 : decode cX8_shortest 1 = .ok (.lstore_n 3, 1) := by decide +kernel
theorem dX8_shortest_2 : decode cX8_shortest 2 = .ok (.iconst 1, 1) := by decide +kernel
theorem dX8_shortest_3 : decode cX8_shortest 3 = .ok (.istore 5, 2) := by decide +kernel
theorem dX8_shortest_5 : decode cX8_shortest 5 = .ok (.iconst 2, 1) := by decide +kernel
theorem dX8_shortest_6 : decode cX8_shortest 6 = .ok (.iload 5, 2) := by decide +kernel
theorem dX8_shortest_8 : decode cX8_shortest 8 = .ok (.imul, 1) := by decide +kernel
theorem dX8_shortest_9 : decode cX8_shortest 9 = .ok (.iload_n 2, 1) := by decide +kernel
theorem dX8_shortest_10 : decode cX8_shortest 10 = .ok (.if_icmp .gt 62, 3) := by decide +kernel
theorem dX8_shortest_13 : decode cX8_shortest 13 = .ok (.lload_n 3, 1) := by decide +kernel
theorem dX8_shortest_14 : decode cX8_shortest 14 = .ok (.ldc2_w 7, 3) := by decide +kernel
theorem dX8_shortest_17 : decode cX8_shortest 17 = .ok (.aload_n 1, 1) := by decide +kernel
theorem dX8_shortest_18 : decode cX8_shortest 18 = .ok (.iload_n 2, 1) := by decide +kernel
theorem dX8_shortest_19 : decode cX8_shortest 19 = .ok (.iload 5, 2) := by decide +kernel
theorem dX8_shortest_21 : decode cX8_shortest 21 = .ok (.isub, 1) := by decide +kernel
theorem dX8_shortest_22 : decode cX8_shortest 22 = .ok (.iaload, 1) := by decide +kernel
theorem dX8_shortest_23 : decode cX8_shortest 23 = .ok (.invokestatic 9, 3) := by decide +kernel
theorem dX8_shortest_26 : decode cX8_shortest 26 = .ok (.lmul, 1) := by decide +kernel
theorem dX8_shortest_27 : decode cX8_shortest 27 = .ok (.aload_n 1, 1) := by decide +kernel
theorem dX8_shortest_28 : decode cX8_shortest 28 = .ok (.iload_n 2, 1) := by decide +kernel
theorem dX8_shortest_29 : decode cX8_shortest 29 = .ok (.iconst 2, 1) := by decide +kernel
theorem dX8_shortest_30 : decode cX8_shortest 30 = .ok (.iload 5, 2) := by decide +kernel
theorem dX8_shortest_32 : decode cX8_shortest 32 = .ok (.imul, 1) := by decide +kernel
theorem dX8_shortest_33 : decode cX8_shortest 33 = .ok (.isub, 1) := by decide +kernel
theorem dX8_shortest_34 : decode cX8_shortest 34 = .ok (.iaload, 1) := by decide +kernel
theorem dX8_shortest_35 : decode cX8_shortest 35 = .ok (.invokestatic 9, 3) := by decide +kernel
theorem dX8_shortest_38 : decode cX8_shortest 38 = .ok (.lsub, 1) := by decide +kernel
theorem dX8_shortest_39 : decode cX8_shortest 39 = .ok (.aload_n 1, 1) := by decide +kernel
theorem dX8_shortest_40 : decode cX8_shortest 40 = .ok (.iload_n 2, 1) := by decide +kernel
theorem dX8_shortest_41 : decode cX8_shortest 41 = .ok (.iconst 2, 1) := by decide +kernel
theorem dX8_shortest_42 : decode cX8_shortest 42 = .ok (.iload 5, 2) := by decide +kernel
theorem dX8_shortest_44 : decode cX8_shortest 44 = .ok (.imul, 1) := by decide +kernel
theorem dX8_shortest_45 : decode cX8_shortest 45 = .ok (.isub, 1) := by decide +kernel
theorem dX8_shortest_46 : decode cX8_shortest 46 = .ok (.iconst 1, 1) := by decide +kernel
theorem dX8_shortest_47 : decode cX8_shortest 47 = .ok (.iadd, 1) := by decide +kernel
theorem dX8_shortest_48 : decode cX8_shortest 48 = .ok (.iaload, 1) := by decide +kernel
theorem dX8_shortest_49 : decode cX8_shortest 49 = .ok (.invokestatic 9, 3) := by decide +kernel
theorem dX8_shortest_52 : decode cX8_shortest 52 = .ok (.lsub, 1) := by decide +kernel
theorem dX8_shortest_53 : decode cX8_shortest 53 = .ok (.ladd, 1) := by decide +kernel
theorem dX8_shortest_54 : decode cX8_shortest 54 = .ok (.lstore_n 3, 1) := by decide +kernel
theorem dX8_shortest_55 : decode cX8_shortest 55 = .ok (.lload_n 3, 1) := by decide +kernel
theorem dX8_shortest_56 : decode cX8_shortest 56 = .ok (.lconst 0, 1) := by decide +kernel
theorem dX8_shortest_57 : decode cX8_shortest 57 = .ok (.lcmp, 1) := by decide +kernel
theorem dX8_shortest_58 : decode cX8_shortest 58 = .ok (.ifCond .ne 8, 3) := by decide +kernel
theorem dX8_shortest_61 : decode cX8_shortest 61 = .ok (.iconst 2, 1) := by decide +kernel
theorem dX8_shortest_62 : decode cX8_shortest 62 = .ok (.iload 5, 2) := by decide +kernel
theorem dX8_shortest_64 : decode cX8_shortest 64 = .ok (.imul, 1) := by decide +kernel
theorem dX8_shortest_65 : decode cX8_shortest 65 = .ok (.ireturn, 1) := by decide +kernel
theorem dX8_shortest_66 : decode cX8_shortest 66 = .ok (.iinc 5 1, 3) := by decide +kernel
theorem dX8_shortest_69 : decode cX8_shortest 69 = .ok (.goto (-64), 3) := by decide +kernel
theorem dX8_shortest_72 : decode cX8_shortest 72 = .ok (.iconst 0, 1) := by decide +kernel
theorem dX8_shortest_73 : decode cX8_shortest 73 = .ok (.ireturn, 1) := by decide +kernel
theorem dX8_weight_0 : decode cX8_weight 0 = .ok (.lconst 1, 1) := by decide +kernel
theorem dX8_weight_1 : decode cX8_weight 1 = .ok (.bipush 8, 2) := by decide +kernel
theorem dX8_weight_3 : decode cX8_weight 3 = .ok (.iload_n 0, 1) := by decide +kernel
theorem dX8_weight_4 : decode cX8_weight 4 = .ok (.imul, 1) := by decide +kernel
theorem dX8_weight_5 : decode cX8_weight 5 = .ok (.lshl, 1) := by decide +kernel
theorem dX8_weight_6 : decode cX8_weight 6 = .ok (.lreturn, 1) := by decide +kernel
theorem dJ6_bitCount_0f7a4_0 : decode cJ6_bitCount_0f7a4 0 = .ok (.iload_n 0, 1) := by decide +kernel
theorem dJ6_bitCount_0f7a4_1 : decode cJ6_bitCount_0f7a4 1 = .ok (.iload_n 0, 1) := by decide +kernel
theorem dJ6_bitCount_0f7a4_2 : decode cJ6_bitCount_0f7a4 2 = .ok (.iconst 1, 1) := by decide +kernel
theorem dJ6_bitCount_0f7a4_3 : decode cJ6_bitCount_0f7a4 3 = .ok (.iushr, 1) := by decide +kernel
theorem dJ6_bitCount_0f7a4_4 : decode cJ6_bitCount_0f7a4 4 = .ok (.ldc_w 265, 3) := by decide +kernel
theorem dJ6_bitCount_0f7a4_7 : decode cJ6_bitCount_0f7a4 7 = .ok (.iand, 1) := by decide +kernel
theorem dJ6_bitCount_0f7a4_8 : decode cJ6_bitCount_0f7a4 8 = .ok (.isub, 1) := by decide +kernel
theorem dJ6_bitCount_0f7a4_9 : decode cJ6_bitCount_0f7a4 9 = .ok (.istore_n 0, 1) := by decide +kernel
theorem dJ6_bitCount_0f7a4_10 : decode cJ6_bitCount_0f7a4 10 = .ok (.iload_n 0, 1) := by decide +kernel
theorem dJ6_bitCount_0f7a4_11 : decode cJ6_bitCount_0f7a4 11 = .ok (.ldc_w 266, 3) := by decide +kernel
theorem dJ6_bitCount_0f7a4_14 : decode cJ6_bitCount_0f7a4 14 = .ok (.iand, 1) := by decide +kernel
theorem dJ6_bitCount_0f7a4_15 : decode cJ6_bitCount_0f7a4 15 = .ok (.iload_n 0, 1) := by decide +kernel
theorem dJ6_bitCount_0f7a4_16 : decode cJ6_bitCount_0f7a4 16 = .ok (.iconst 2, 1) := by decide +kernel
theorem dJ6_bitCount_0f7a4_17 : decode cJ6_bitCount_0f7a4 17 = .ok (.iushr, 1) := by decide +kernel
theorem dJ6_bitCount_0f7a4_18 : decode cJ6_bitCount_0f7a4 18 = .ok (.ldc_w 266, 3) := by decide +kernel
theorem dJ6_bitCount_0f7a4_21 : decode cJ6_bitCount_0f7a4 21 = .ok (.iand, 1) := by decide +kernel
theorem dJ6_bitCount_0f7a4_22 : decode cJ6_bitCount_0f7a4 22 = .ok (.iadd, 1) := by decide +kernel
theorem dJ6_bitCount_0f7a4_23 : decode cJ6_bitCount_0f7a4 23 = .ok (.istore_n 0, 1) := by decide +kernel
theorem dJ6_bitCount_0f7a4_24 : decode cJ6_bitCount_0f7a4 24 = .ok (.iload_n 0, 1) := by decide +kernel
theorem dJ6_bitCount_0f7a4_25 : decode cJ6_bitCount_0f7a4 25 = .ok (.iload_n 0, 1) := by decide +kernel
theorem dJ6_bitCount_0f7a4_26 : decode cJ6_bitCount_0f7a4 26 = .ok (.iconst 4, 1) := by decide +kernel
theorem dJ6_bitCount_0f7a4_27 : decode cJ6_bitCount_0f7a4 27 = .ok (.iushr, 1) := by decide +kernel
theorem dJ6_bitCount_0f7a4_28 : decode cJ6_bitCount_0f7a4 28 = .ok (.iadd, 1) := by decide +kernel
theorem dJ6_bitCount_0f7a4_29 : decode cJ6_bitCount_0f7a4 29 = .ok (.ldc_w 267, 3) := by decide +kernel
theorem dJ6_bitCount_0f7a4_32 : decode cJ6_bitCount_0f7a4 32 = .ok (.iand, 1) := by decide +kernel
theorem dJ6_bitCount_0f7a4_33 : decode cJ6_bitCount_0f7a4 33 = .ok (.istore_n 0, 1) := by decide +kernel
theorem dJ6_bitCount_0f7a4_34 : decode cJ6_bitCount_0f7a4 34 = .ok (.iload_n 0, 1) := by decide +kernel
theorem dJ6_bitCount_0f7a4_35 : decode cJ6_bitCount_0f7a4 35 = .ok (.iload_n 0, 1) := by decide +kernel
theorem dJ6_bitCount_0f7a4_36 : decode cJ6_bitCount_0f7a4 36 = .ok (.bipush 8, 2) := by decide +kernel
theorem dJ6_bitCount_0f7a4_38 : decode cJ6_bitCount_0f7a4 38 = .ok (.iushr, 1) := by decide +kernel
theorem dJ6_bitCount_0f7a4_39 : decode cJ6_bitCount_0f7a4 39 = .ok (.iadd, 1) := by decide +kernel
theorem dJ6_bitCount_0f7a4_40 : decode cJ6_bitCount_0f7a4 40 = .ok (.istore_n 0, 1) := by decide +kernel
theorem dJ6_bitCount_0f7a4_41 : decode cJ6_bitCount_0f7a4 41 = .ok (.iload_n 0, 1) := by decide +kernel
theorem dJ6_bitCount_0f7a4_42 : decode cJ6_bitCount_0f7a4 42 = .ok (.iload_n 0, 1) := by decide +kernel
theorem dJ6_bitCount_0f7a4_43 : decode cJ6_bitCount_0f7a4 43 = .ok (.bipush 16, 2) := by decide +kernel
theorem dJ6_bitCount_0f7a4_45 : decode cJ6_bitCount_0f7a4 45 = .ok (.iushr, 1) := by decide +kernel
theorem dJ6_bitCount_0f7a4_46 : decode cJ6_bitCount_0f7a4 46 = .ok (.iadd, 1) := by decide +kernel
theorem dJ6_bitCount_0f7a4_47 : decode cJ6_bitCount_0f7a4 47 = .ok (.istore_n 0, 1) := by decide +kernel
theorem dJ6_bitCount_0f7a4_48 : decode cJ6_bitCount_0f7a4 48 = .ok (.iload_n 0, 1) := by decide +kernel
theorem dJ6_bitCount_0f7a4_49 : decode cJ6_bitCount_0f7a4 49 = .ok (.bipush 63, 2) := by decide +kernel
theorem dJ6_bitCount_0f7a4_51 : decode cJ6_bitCount_0f7a4 51 = .ok (.iand, 1) := by decide +kernel
theorem dJ6_bitCount_0f7a4_52 : decode cJ6_bitCount_0f7a4 52 = .ok (.ireturn, 1) := by decide +kernel
theorem dJ7_rangeCheck_23922_0 : decode cJ7_rangeCheck_23922 0 = .ok (.iload_n 1, 1) := by decide +kernel
theorem dJ7_rangeCheck_23922_1 : decode cJ7_rangeCheck_23922 1 = .ok (.iload_n 2, 1) := by decide +kernel
theorem dJ7_rangeCheck_23922_2 : decode cJ7_rangeCheck_23922 2 = .ok (.if_icmp .le 44, 3) := by decide +kernel
theorem dJ7_rangeCheck_23922_5 : decode cJ7_rangeCheck_23922 5 = .ok (.new 43, 3) := by decide +kernel
theorem dJ7_rangeCheck_23922_8 : decode cJ7_rangeCheck_23922 8 = .ok (.dup, 1) := by decide +kernel
theorem dJ7_rangeCheck_23922_9 : decode cJ7_rangeCheck_23922 9 = .ok (.new 45, 3) := by decide +kernel
theorem dJ7_rangeCheck_23922_12 : decode cJ7_rangeCheck_23922 12 = .ok (.dup, 1) := by decide +kernel
theorem dJ7_rangeCheck_23922_13 : decode cJ7_rangeCheck_23922 13 = .ok (.invokespecial 47, 3) := by decide +kernel
theorem dJ7_rangeCheck_23922_16 : decode cJ7_rangeCheck_23922 16 = .ok (.ldc 48, 2) := by decide +kernel
theorem dJ7_rangeCheck_23922_18 : decode cJ7_rangeCheck_23922 18 = .ok (.invokevirtual 50, 3) := by decide +kernel
theorem dJ7_rangeCheck_23922_21 : decode cJ7_rangeCheck_23922 21 = .ok (.iload_n 1, 1) := by decide +kernel
theorem dJ7_rangeCheck_23922_22 : decode cJ7_rangeCheck_23922 22 = .ok (.invokevirtual 54, 3) := by decide +kernel
theorem dJ7_rangeCheck_23922_25 : decode cJ7_rangeCheck_23922 25 = .ok (.ldc 57, 2) := by decide +kernel
theorem dJ7_rangeCheck_23922_27 : decode cJ7_rangeCheck_23922 27 = .ok (.invokevirtual 50, 3) := by decide +kernel
theorem dJ7_rangeCheck_23922_30 : decode cJ7_rangeCheck_23922 30 = .ok (.iload_n 2, 1) := by decide +kernel
theorem dJ7_rangeCheck_23922_31 : decode cJ7_rangeCheck_23922 31 = .ok (.invokevirtual 54, 3) := by decide +kernel
theorem dJ7_rangeCheck_23922_34 : decode cJ7_rangeCheck_23922 34 = .ok (.ldc 59, 2) := by decide +kernel
theorem dJ7_rangeCheck_23922_36 : decode cJ7_rangeCheck_23922 36 = .ok (.invokevirtual 50, 3) := by decide +kernel
theorem dJ7_rangeCheck_23922_39 : decode cJ7_rangeCheck_23922 39 = .ok (.invokevirtual 61, 3) := by decide +kernel
theorem dJ7_rangeCheck_23922_42 : decode cJ7_rangeCheck_23922 42 = .ok (.invokespecial 65, 3) := by decide +kernel
theorem dJ7_rangeCheck_23922_45 : decode cJ7_rangeCheck_23922 45 = .ok (.athrow, 1) := by decide +kernel
theorem dJ7_rangeCheck_23922_46 : decode cJ7_rangeCheck_23922 46 = .ok (.iload_n 1, 1) := by decide +kernel
theorem dJ7_rangeCheck_23922_47 : decode cJ7_rangeCheck_23922 47 = .ok (.ifCond .ge 12, 3) := by decide +kernel
theorem dJ7_rangeCheck_23922_50 : decode cJ7_rangeCheck_23922 50 = .ok (.new 68, 3) := by decide +kernel
theorem dJ7_rangeCheck_23922_53 : decode cJ7_rangeCheck_23922 53 = .ok (.dup, 1) := by decide +kernel
theorem dJ7_rangeCheck_23922_54 : decode cJ7_rangeCheck_23922 54 = .ok (.iload_n 1, 1) := by decide +kernel
theorem dJ7_rangeCheck_23922_55 : decode cJ7_rangeCheck_23922 55 = .ok (.invokespecial 70, 3) := by decide +kernel
theorem dJ7_rangeCheck_23922_58 : decode cJ7_rangeCheck_23922 58 = .ok (.athrow, 1) := by decide +kernel
theorem dJ7_rangeCheck_23922_59 : decode cJ7_rangeCheck_23922 59 = .ok (.iload_n 2, 1) := by decide +kernel
theorem dJ7_rangeCheck_23922_60 : decode cJ7_rangeCheck_23922 60 = .ok (.iload_n 0, 1) := by decide +kernel
theorem dJ7_rangeCheck_23922_61 : decode cJ7_rangeCheck_23922 61 = .ok (.if_icmp .le 12, 3) := by decide +kernel
theorem dJ7_rangeCheck_23922_64 : decode cJ7_rangeCheck_23922 64 = .ok (.new 68, 3) := by decide +kernel
theorem dJ7_rangeCheck_23922_67 : decode cJ7_rangeCheck_23922 67 = .ok (.dup, 1) := by decide +kernel
theorem dJ7_rangeCheck_23922_68 : decode cJ7_rangeCheck_23922 68 = .ok (.iload_n 2, 1) := by decide +kernel
theorem dJ7_rangeCheck_23922_69 : decode cJ7_rangeCheck_23922 69 = .ok (.invokespecial 70, 3) := by decide +kernel
theorem dJ7_rangeCheck_23922_72 : decode cJ7_rangeCheck_23922 72 = .ok (.athrow, 1) := by decide +kernel
theorem dJ7_rangeCheck_23922_73 : decode cJ7_rangeCheck_23922 73 = .ok (.return_, 1) := by decide +kernel
theorem dJ7_fill_bad5a_0 : decode cJ7_fill_bad5a 0 = .ok (.aload_n 0, 1) := by decide +kernel
theorem dJ7_fill_bad5a_1 : decode cJ7_fill_bad5a 1 = .ok (.arraylength, 1) := by decide +kernel
theorem dJ7_fill_bad5a_2 : decode cJ7_fill_bad5a 2 = .ok (.iload_n 1, 1) := by decide +kernel
theorem dJ7_fill_bad5a_3 : decode cJ7_fill_bad5a 3 = .ok (.iload_n 2, 1) := by decide +kernel
theorem dJ7_fill_bad5a_4 : decode cJ7_fill_bad5a 4 = .ok (.invokestatic 13, 3) := by decide +kernel
theorem dJ7_fill_bad5a_7 : decode cJ7_fill_bad5a 7 = .ok (.iload_n 1, 1) := by decide +kernel
theorem dJ7_fill_bad5a_8 : decode cJ7_fill_bad5a 8 = .ok (.istore 5, 2) := by decide +kernel
theorem dJ7_fill_bad5a_10 : decode cJ7_fill_bad5a 10 = .ok (.iload 5, 2) := by decide +kernel
theorem dJ7_fill_bad5a_12 : decode cJ7_fill_bad5a 12 = .ok (.iload_n 2, 1) := by decide +kernel
theorem dJ7_fill_bad5a_13 : decode cJ7_fill_bad5a 13 = .ok (.if_icmp .ge 14, 3) := by decide +kernel
theorem dJ7_fill_bad5a_16 : decode cJ7_fill_bad5a 16 = .ok (.aload_n 0, 1) := by decide +kernel
theorem dJ7_fill_bad5a_17 : decode cJ7_fill_bad5a 17 = .ok (.iload 5, 2) := by decide +kernel
theorem dJ7_fill_bad5a_19 : decode cJ7_fill_bad5a 19 = .ok (.lload_n 3, 1) := by decide +kernel
theorem dJ7_fill_bad5a_20 : decode cJ7_fill_bad5a 20 = .ok (.lastore, 1) := by decide +kernel
theorem dJ7_fill_bad5a_21 : decode cJ7_fill_bad5a 21 = .ok (.iinc 5 1, 3) := by decide +kernel
theorem dJ7_fill_bad5a_24 : decode cJ7_fill_bad5a 24 = .ok (.goto (-14), 3) := by decide +kernel
theorem dJ7_fill_bad5a_27 : decode cJ7_fill_bad5a 27 = .ok (.return_, 1) := by decide +kernel
theorem dJ7_fill_53178_0 : decode cJ7_fill_53178 0 = .ok (.iconst 0, 1) := by decide +kernel
theorem dJ7_fill_53178_1 : decode cJ7_fill_53178 1 = .ok (.istore_n 2, 1) := by decide +kernel
theorem dJ7_fill_53178_2 : decode cJ7_fill_53178 2 = .ok (.aload_n 0, 1) := by decide +kernel
theorem dJ7_fill_53178_3 : decode cJ7_fill_53178 3 = .ok (.arraylength, 1) := by decide +kernel
theorem dJ7_fill_53178_4 : decode cJ7_fill_53178 4 = .ok (.istore_n 3, 1) := by decide +kernel
theorem dJ7_fill_53178_5 : decode cJ7_fill_53178 5 = .ok (.iload_n 2, 1) := by decide +kernel
theorem dJ7_fill_53178_6 : decode cJ7_fill_53178 6 = .ok (.iload_n 3, 1) := by decide +kernel
theorem dJ7_fill_53178_7 : decode cJ7_fill_53178 7 = .ok (.if_icmp .ge 13, 3) := by decide +kernel
theorem dJ7_fill_53178_10 : decode cJ7_fill_53178 10 = .ok (.aload_n 0, 1) := by decide +kernel
theorem dJ7_fill_53178_11 : decode cJ7_fill_53178 11 = .ok (.iload_n 2, 1) := by decide +kernel
theorem dJ7_fill_53178_12 : decode cJ7_fill_53178 12 = .ok (.iload_n 1, 1) := by decide +kernel
theorem dJ7_fill_53178_13 : decode cJ7_fill_53178 13 = .ok (.iastore, 1) := by decide +kernel
theorem dJ7_fill_53178_14 : decode cJ7_fill_53178 14 = .ok (.iinc 2 1, 3) := by decide +kernel
theorem dJ7_fill_53178_17 : decode cJ7_fill_53178 17 = .ok (.goto (-12), 3) := by decide +kernel
theorem dJ7_fill_53178_20 : decode cJ7_fill_53178 20 = .ok (.return_, 1) := by decide +kernel
theorem dJ7_fill_fda19_0 : decode cJ7_fill_fda19 0 = .ok (.aload_n 0, 1) := by decide +kernel
theorem dJ7_fill_fda19_1 : decode cJ7_fill_fda19 1 = .ok (.arraylength, 1) := by decide +kernel
theorem dJ7_fill_fda19_2 : decode cJ7_fill_fda19 2 = .ok (.iload_n 1, 1) := by decide +kernel
theorem dJ7_fill_fda19_3 : decode cJ7_fill_fda19 3 = .ok (.iload_n 2, 1) := by decide +kernel
theorem dJ7_fill_fda19_4 : decode cJ7_fill_fda19 4 = .ok (.invokestatic 13, 3) := by decide +kernel
theorem dJ7_fill_fda19_7 : decode cJ7_fill_fda19 7 = .ok (.iload_n 1, 1) := by decide +kernel
theorem dJ7_fill_fda19_8 : decode cJ7_fill_fda19 8 = .ok (.istore 4, 2) := by decide +kernel
theorem dJ7_fill_fda19_10 : decode cJ7_fill_fda19 10 = .ok (.iload 4, 2) := by decide +kernel
theorem dJ7_fill_fda19_12 : decode cJ7_fill_fda19 12 = .ok (.iload_n 2, 1) := by decide +kernel
theorem dJ7_fill_fda19_13 : decode cJ7_fill_fda19 13 = .ok (.if_icmp .ge 14, 3) := by decide +kernel
theorem dJ7_fill_fda19_16 : decode cJ7_fill_fda19 16 = .ok (.aload_n 0, 1) := by decide +kernel
theorem dJ7_fill_fda19_17 : decode cJ7_fill_fda19 17 = .ok (.iload 4, 2) := by decide +kernel
theorem dJ7_fill_fda19_19 : decode cJ7_fill_fda19 19 = .ok (.iload_n 3, 1) := by decide +kernel
theorem dJ7_fill_fda19_20 : decode cJ7_fill_fda19 20 = .ok (.iastore, 1) := by decide +kernel
theorem dJ7_fill_fda19_21 : decode cJ7_fill_fda19 21 = .ok (.iinc 4 1, 3) := by decide +kernel
theorem dJ7_fill_fda19_24 : decode cJ7_fill_fda19 24 = .ok (.goto (-14), 3) := by decide +kernel
theorem dJ7_fill_fda19_27 : decode cJ7_fill_fda19 27 = .ok (.return_, 1) := by decide +kernel
theorem dJ7_copyOf_59c91_0 : decode cJ7_copyOf_59c91 0 = .ok (.iload_n 1, 1) := by decide +kernel
theorem dJ7_copyOf_59c91_1 : decode cJ7_copyOf_59c91 1 = .ok (.aload_n 0, 1) := by decide +kernel
theorem dJ7_copyOf_59c91_2 : decode cJ7_copyOf_59c91 2 = .ok (.arraylength, 1) := by decide +kernel
theorem dJ7_copyOf_59c91_3 : decode cJ7_copyOf_59c91 3 = .ok (.if_icmp .ne 11, 3) := by decide +kernel
theorem dJ7_copyOf_59c91_6 : decode cJ7_copyOf_59c91 6 = .ok (.aload_n 0, 1) := by decide +kernel
theorem dJ7_copyOf_59c91_7 : decode cJ7_copyOf_59c91 7 = .ok (.invokevirtual 316, 3) := by decide +kernel
theorem dJ7_copyOf_59c91_10 : decode cJ7_copyOf_59c91 10 = .ok (.checkcast 317, 3) := by decide +kernel
theorem dJ7_copyOf_59c91_13 : decode cJ7_copyOf_59c91 13 = .ok (.areturn, 1) := by decide +kernel
theorem dJ7_copyOf_59c91_14 : decode cJ7_copyOf_59c91 14 = .ok (.iload_n 1, 1) := by decide +kernel
theorem dJ7_copyOf_59c91_15 : decode cJ7_copyOf_59c91 15 = .ok (.newarray .int, 2) := by decide +kernel
theorem dJ7_copyOf_59c91_17 : decode cJ7_copyOf_59c91 17 = .ok (.astore_n 2, 1) := by decide +kernel
theorem dJ7_copyOf_59c91_18 : decode cJ7_copyOf_59c91 18 = .ok (.aload_n 0, 1) := by decide +kernel
theorem dJ7_copyOf_59c91_19 : decode cJ7_copyOf_59c91 19 = .ok (.iconst 0, 1) := by decide +kernel
theorem dJ7_copyOf_59c91_20 : decode cJ7_copyOf_59c91 20 = .ok (.aload_n 2, 1) := by decide +kernel
theorem dJ7_copyOf_59c91_21 : decode cJ7_copyOf_59c91 21 = .ok (.iconst 0, 1) := by decide +kernel
theorem dJ7_copyOf_59c91_22 : decode cJ7_copyOf_59c91 22 = .ok (.aload_n 0, 1) := by decide +kernel
theorem dJ7_copyOf_59c91_23 : decode cJ7_copyOf_59c91 23 = .ok (.arraylength, 1) := by decide +kernel
theorem dJ7_copyOf_59c91_24 : decode cJ7_copyOf_59c91 24 = .ok (.iload_n 1, 1) := by decide +kernel
theorem dJ7_copyOf_59c91_25 : decode cJ7_copyOf_59c91 25 = .ok (.invokestatic 304, 3) := by decide +kernel
theorem dJ7_copyOf_59c91_28 : decode cJ7_copyOf_59c91 28 = .ok (.invokestatic 150, 3) := by decide +kernel
theorem dJ7_copyOf_59c91_31 : decode cJ7_copyOf_59c91 31 = .ok (.aload_n 2, 1) := by decide +kernel
theorem dJ7_copyOf_59c91_32 : decode cJ7_copyOf_59c91 32 = .ok (.areturn, 1) := by decide +kernel
theorem dJ9_max_7cf53_0 : decode cJ9_max_7cf53 0 = .ok (.iload_n 0, 1) := by decide +kernel
theorem dJ9_max_7cf53_1 : decode cJ9_max_7cf53 1 = .ok (.iload_n 1, 1) := by decide +kernel
theorem dJ9_max_7cf53_2 : decode cJ9_max_7cf53 2 = .ok (.if_icmp .lt 7, 3) := by decide +kernel
theorem dJ9_max_7cf53_5 : decode cJ9_max_7cf53 5 = .ok (.iload_n 0, 1) := by decide +kernel
theorem dJ9_max_7cf53_6 : decode cJ9_max_7cf53 6 = .ok (.goto 4, 3) := by decide +kernel
theorem dJ9_max_7cf53_9 : decode cJ9_max_7cf53 9 = .ok (.iload_n 1, 1) := by decide +kernel
theorem dJ9_max_7cf53_10 : decode cJ9_max_7cf53 10 = .ok (.ireturn, 1) := by decide +kernel
theorem dJ9_min_7cf53_0 : decode cJ9_min_7cf53 0 = .ok (.iload_n 0, 1) := by decide +kernel
theorem dJ9_min_7cf53_1 : decode cJ9_min_7cf53 1 = .ok (.iload_n 1, 1) := by decide +kernel
theorem dJ9_min_7cf53_2 : decode cJ9_min_7cf53 2 = .ok (.if_icmp .gt 7, 3) := by decide +kernel
theorem dJ9_min_7cf53_5 : decode cJ9_min_7cf53 5 = .ok (.iload_n 0, 1) := by decide +kernel
theorem dJ9_min_7cf53_6 : decode cJ9_min_7cf53 6 = .ok (.goto 4, 3) := by decide +kernel
theorem dJ9_min_7cf53_9 : decode cJ9_min_7cf53 9 = .ok (.iload_n 1, 1) := by decide +kernel
theorem dJ9_min_7cf53_10 : decode cJ9_min_7cf53 10 = .ok (.ireturn, 1) := by decide +kernel
theorem dJ9_min_f86c9_0 : decode cJ9_min_f86c9 0 = .ok (.lload_n 0, 1) := by decide +kernel
theorem dJ9_min_f86c9_1 : decode cJ9_min_f86c9 1 = .ok (.lload_n 2, 1) := by decide +kernel
theorem dJ9_min_f86c9_2 : decode cJ9_min_f86c9 2 = .ok (.lcmp, 1) := by decide +kernel
theorem dJ9_min_f86c9_3 : decode cJ9_min_f86c9 3 = .ok (.ifCond .gt 7, 3) := by decide +kernel
theorem dJ9_min_f86c9_6 : decode cJ9_min_f86c9 6 = .ok (.lload_n 0, 1) := by decide +kernel
theorem dJ9_min_f86c9_7 : decode cJ9_min_f86c9 7 = .ok (.goto 4, 3) := by decide +kernel
theorem dJ9_min_f86c9_10 : decode cJ9_min_f86c9 10 = .ok (.lload_n 2, 1) := by decide +kernel
theorem dJ9_min_f86c9_11 : decode cJ9_min_f86c9 11 = .ok (.lreturn, 1) := by decide +kernel
end
section
theorem dX9_init_0 : decode cX9_init 0 = .ok (.aload_n 0, 1) := by decide +kernel
theorem dX9_init_1 : decode cX9_init 1 = .ok (.invokespecial 3, 3) := by decide +kernel
theorem dX9_init_4 : decode cX9_init 4 = .ok (.aload_n 0, 1) := by decide +kernel
theorem dX9_init_5 : decode cX9_init 5 = .ok (.bipush 16, 2) := by decide +kernel
theorem dX9_init_7 : decode cX9_init 7 = .ok (.anewarray 9, 3) := by decide +kernel
theorem dX9_init_10 : decode cX9_init 10 = .ok (.putfield 11, 3) := by decide +kernel
theorem dX9_init_13 : decode cX9_init 13 = .ok (.aload_n 0, 1) := by decide +kernel
theorem dX9_init_14 : decode cX9_init 14 = .ok (.bipush 12, 2) := by decide +kernel
theorem dX9_init_16 : decode cX9_init 16 = .ok (.anewarray 15, 3) := by decide +kernel
theorem dX9_init_19 : decode cX9_init 19 = .ok (.putfield 17, 3) := by decide +kernel
theorem dX9_init_22 : decode cX9_init 22 = .ok (.aload_n 0, 1) := by decide +kernel
theorem dX9_init_23 : decode cX9_init 23 = .ok (.bipush 8, 2) := by decide +kernel
theorem dX9_init_25 : decode cX9_init 25 = .ok (.anewarray 21, 3) := by decide +kernel
theorem dX9_init_28 : decode cX9_init 28 = .ok (.putfield 23, 3) := by decide +kernel
theorem dX9_init_31 : decode cX9_init 31 = .ok (.aload_n 0, 1) := by decide +kernel
theorem dX9_init_32 : decode cX9_init 32 = .ok (.iconst 1, 1) := by decide +kernel
theorem dX9_init_33 : decode cX9_init 33 = .ok (.anewarray 15, 3) := by decide +kernel
theorem dX9_init_36 : decode cX9_init 36 = .ok (.dup, 1) := by decide +kernel
theorem dX9_init_37 : decode cX9_init 37 = .ok (.iconst 0, 1) := by decide +kernel
theorem dX9_init_38 : decode cX9_init 38 = .ok (.new 27, 3) := by decide +kernel
theorem dX9_init_41 : decode cX9_init 41 = .ok (.dup, 1) := by decide +kernel
theorem dX9_init_42 : decode cX9_init 42 = .ok (.iconst 2, 1) := by decide +kernel
theorem dX9_init_43 : decode cX9_init 43 = .ok (.iconst 1, 1) := by decide +kernel
theorem dX9_init_44 : decode cX9_init 44 = .ok (.iconst 0, 1) := by decide +kernel
theorem dX9_init_45 : decode cX9_init 45 = .ok (.invokespecial 29, 3) := by decide +kernel
theorem dX9_init_48 : decode cX9_init 48 = .ok (.aastore, 1) := by decide +kernel
theorem dX9_init_49 : decode cX9_init 49 = .ok (.putfield 32, 3) := by decide +kernel
theorem dX9_init_52 : decode cX9_init 52 = .ok (.aload_n 0, 1) := by decide +kernel
theorem dX9_init_53 : decode cX9_init 53 = .ok (.new 35, 3) := by decide +kernel
theorem dX9_init_56 : decode cX9_init 56 = .ok (.dup, 1) := by decide +kernel
theorem dX9_init_57 : decode cX9_init 57 = .ok (.invokespecial 37, 3) := by decide +kernel
theorem dX9_init_60 : decode cX9_init 60 = .ok (.putfield 38, 3) := by decide +kernel
theorem dX9_init_63 : decode cX9_init 63 = .ok (.aload_n 0, 1) := by decide +kernel
theorem dX9_init_64 : decode cX9_init 64 = .ok (.bipush 60, 2) := by decide +kernel
theorem dX9_init_66 : decode cX9_init 66 = .ok (.newarray .int, 2) := by decide +kernel
theorem dX9_init_68 : decode cX9_init 68 = .ok (.putfield 42, 3) := by decide +kernel
theorem dX9_init_71 : decode cX9_init 71 = .ok (.aload_n 0, 1) := by decide +kernel
theorem dX9_init_72 : decode cX9_init 72 = .ok (.sipush 360, 3) := by decide +kernel
theorem dX9_init_75 : decode cX9_init 75 = .ok (.newarray .int, 2) := by decide +kernel
theorem dX9_init_77 : decode cX9_init 77 = .ok (.putfield 46, 3) := by decide +kernel
theorem dX9_init_80 : decode cX9_init 80 = .ok (.return_, 1) := by decide +kernel
theorem dX9_sheet_0 : decode cX9_sheet 0 = .ok (.iload_n 1, 1) := by decide +kernel
theorem dX9_sheet_1 : decode cX9_sheet 1 = .ok (.ifCond .lt 8, 3) := by decide +kernel
theorem dX9_sheet_4 : decode cX9_sheet 4 = .ok (.iload_n 1, 1) := by decide +kernel
theorem dX9_sheet_5 : decode cX9_sheet 5 = .ok (.iconst 3, 1) := by decide +kernel
theorem dX9_sheet_6 : decode cX9_sheet 6 = .ok (.if_icmp .lt 13, 3) := by decide +kernel
theorem dX9_sheet_9 : decode cX9_sheet 9 = .ok (.new 49, 3) := by decide +kernel
theorem dX9_sheet_12 : decode cX9_sheet 12 = .ok (.dup, 1) := by decide +kernel
theorem dX9_sheet_13 : decode cX9_sheet 13 = .ok (.ldc 51, 2) := by decide +kernel
theorem dX9_sheet_15 : decode cX9_sheet 15 = .ok (.invokespecial 53, 3) := by decide +kernel
theorem dX9_sheet_18 : decode cX9_sheet 18 = .ok (.athrow, 1) := by decide +kernel
theorem dX9_sheet_19 : decode cX9_sheet 19 = .ok (.aload_n 0, 1) := by decide +kernel
theorem dX9_sheet_20 : decode cX9_sheet 20 = .ok (.getfield 56, 3) := by decide +kernel
theorem dX9_sheet_23 : decode cX9_sheet 23 = .ok (.aload_n 0, 1) := by decide +kernel
theorem dX9_sheet_24 : decode cX9_sheet 24 = .ok (.getfield 11, 3) := by decide +kernel
theorem dX9_sheet_27 : decode cX9_sheet 27 = .ok (.arraylength, 1) := by decide +kernel
theorem dX9_sheet_28 : decode cX9_sheet 28 = .ok (.if_icmp .lt 13, 3) := by decide +kernel
theorem dX9_sheet_31 : decode cX9_sheet 31 = .ok (.new 60, 3) := by decide +kernel
theorem dX9_sheet_34 : decode cX9_sheet 34 = .ok (.dup, 1) := by decide +kernel
theorem dX9_sheet_35 : decode cX9_sheet 35 = .ok (.ldc 62, 2) := by decide +kernel
theorem dX9_sheet_37 : decode cX9_sheet 37 = .ok (.invokespecial 64, 3) := by decide +kernel
theorem dX9_sheet_40 : decode cX9_sheet 40 = .ok (.athrow, 1) := by decide +kernel
theorem dX9_sheet_41 : decode cX9_sheet 41 = .ok (.aload_n 0, 1) := by decide +kernel
theorem dX9_sheet_42 : decode cX9_sheet 42 = .ok (.getfield 11, 3) := by decide +kernel
theorem dX9_sheet_45 : decode cX9_sheet 45 = .ok (.aload_n 0, 1) := by decide +kernel
theorem dX9_sheet_46 : decode cX9_sheet 46 = .ok (.getfield 56, 3) := by decide +kernel
theorem dX9_sheet_49 : decode cX9_sheet 49 = .ok (.new 9, 3) := by decide +kernel
theorem dX9_sheet_52 : decode cX9_sheet 52 = .ok (.dup, 1) := by decide +kernel
theorem dX9_sheet_53 : decode cX9_sheet 53 = .ok (.iload_n 1, 1) := by decide +kernel
theorem dX9_sheet_54 : decode cX9_sheet 54 = .ok (.invokespecial 65, 3) := by decide +kernel
theorem dX9_sheet_57 : decode cX9_sheet 57 = .ok (.aastore, 1) := by decide +kernel
theorem dX9_sheet_58 : decode cX9_sheet 58 = .ok (.aload_n 0, 1) := by decide +kernel
theorem dX9_sheet_59 : decode cX9_sheet 59 = .ok (.dup, 1) := by decide +kernel
theorem dX9_sheet_60 : decode cX9_sheet 60 = .ok (.getfield 56, 3) := by decide +kernel
theorem dX9_sheet_63 : decode cX9_sheet 63 = .ok (.iconst 1, 1) := by decide +kernel
theorem dX9_sheet_64 : decode cX9_sheet 64 = .ok (.iadd, 1) := by decide +kernel
theorem dX9_sheet_65 : decode cX9_sheet 65 = .ok (.putfield 56, 3) := by decide +kernel
theorem dX9_sheet_68 : decode cX9_sheet 68 = .ok (.aload_n 0, 1) := by decide +kernel
theorem dX9_sheet_69 : decode cX9_sheet 69 = .ok (.getfield 56, 3) := by decide +kernel
theorem dX9_sheet_72 : decode cX9_sheet 72 = .ok (.iconst 1, 1) := by decide +kernel
theorem dX9_sheet_73 : decode cX9_sheet 73 = .ok (.isub, 1) := by decide +kernel
theorem dX9_sheet_74 : decode cX9_sheet 74 = .ok (.ireturn, 1) := by decide +kernel
theorem dX9_row_0 : decode cX9_row 0 = .ok (.aload_n 0, 1) := by decide +kernel
theorem dX9_row_1 : decode cX9_row 1 = .ok (.iload_n 1, 1) := by decide +kernel
theorem dX9_row_2 : decode cX9_row 2 = .ok (.iload_n 2, 1) := by decide +kernel
theorem dX9_row_3 : decode cX9_row 3 = .ok (.invokevirtual 68, 3) := by decide +kernel
theorem dX9_row_6 : decode cX9_row 6 = .ok (.astore 4, 2) := by decide +kernel
theorem dX9_row_8 : decode cX9_row 8 = .ok (.iload_n 3, 1) := by decide +kernel
theorem dX9_row_9 : decode cX9_row 9 = .ok (.ifCond .lt 9, 3) := by decide +kernel
theorem dX9_row_12 : decode cX9_row 12 = .ok (.iload_n 3, 1) := by decide +kernel
theorem dX9_row_13 : decode cX9_row 13 = .ok (.bipush 80, 2) := by decide +kernel
theorem dX9_row_15 : decode cX9_row 15 = .ok (.if_icmp .le 5, 3) := by decide +kernel
theorem dX9_row_18 : decode cX9_row 18 = .ok (.iconst (-1), 1) := by decide +kernel
theorem dX9_row_19 : decode cX9_row 19 = .ok (.ireturn, 1) := by decide +kernel
theorem dX9_row_20 : decode cX9_row 20 = .ok (.aload 4, 2) := by decide +kernel
theorem dX9_row_22 : decode cX9_row 22 = .ok (.iload_n 2, 1) := by decide +kernel
theorem dX9_row_23 : decode cX9_row 23 = .ok (.iload_n 3, 1) := by decide +kernel
theorem dX9_row_24 : decode cX9_row 24 = .ok (.invokevirtual 72, 3) := by decide +kernel
theorem dX9_row_27 : decode cX9_row 27 = .ok (.iload_n 3, 1) := by decide +kernel
theorem dX9_row_28 : decode cX9_row 28 = .ok (.ireturn, 1) := by decide +kernel
theorem dX9_put_0 : decode cX9_put 0 = .ok (.aload_n 0, 1) := by decide +kernel
theorem dX9_put_1 : decode cX9_put 1 = .ok (.iload_n 1, 1) := by decide +kernel
theorem dX9_put_2 : decode cX9_put 2 = .ok (.iload_n 2, 1) := by decide +kernel
theorem dX9_put_3 : decode cX9_put 3 = .ok (.invokevirtual 68, 3) := by decide +kernel
theorem dX9_put_6 : decode cX9_put 6 = .ok (.astore 5, 2) := by decide +kernel
theorem dX9_put_8 : decode cX9_put 8 = .ok (.aload 5, 2) := by decide +kernel
theorem dX9_put_10 : decode cX9_put 10 = .ok (.iload_n 2, 1) := by decide +kernel
theorem dX9_put_11 : decode cX9_put 11 = .ok (.invokevirtual 76, 3) := by decide +kernel
theorem dX9_put_14 : decode cX9_put 14 = .ok (.istore 6, 2) := by decide +kernel
theorem dX9_put_16 : decode cX9_put 16 = .ok (.iload 6, 2) := by decide +kernel
theorem dX9_put_18 : decode cX9_put 18 = .ok (.iconst (-1), 1) := by decide +kernel
theorem dX9_put_19 : decode cX9_put 19 = .ok (.if_icmp .ne 5, 3) := by decide +kernel
theorem dX9_put_22 : decode cX9_put 22 = .ok (.iconst (-1), 1) := by decide +kernel
theorem dX9_put_23 : decode cX9_put 23 = .ok (.ireturn, 1) := by decide +kernel
theorem dX9_put_24 : decode cX9_put 24 = .ok (.iload_n 3, 1) := by decide +kernel
theorem dX9_put_25 : decode cX9_put 25 = .ok (.ifCond .lt 9, 3) := by decide +kernel
theorem dX9_put_28 : decode cX9_put 28 = .ok (.iload_n 3, 1) := by decide +kernel
theorem dX9_put_29 : decode cX9_put 29 = .ok (.iload 6, 2) := by decide +kernel
theorem dX9_put_31 : decode cX9_put 31 = .ok (.if_icmp .lt 6, 3) := by decide +kernel
theorem dX9_put_34 : decode cX9_put 34 = .ok (.bipush (-2), 2) := by decide +kernel
theorem dX9_put_36 : decode cX9_put 36 = .ok (.ireturn, 1) := by decide +kernel
theorem dX9_put_37 : decode cX9_put 37 = .ok (.aload 5, 2) := by decide +kernel
theorem dX9_put_39 : decode cX9_put 39 = .ok (.iload_n 2, 1) := by decide +kernel
theorem dX9_put_40 : decode cX9_put 40 = .ok (.iload_n 3, 1) := by decide +kernel
theorem dX9_put_41 : decode cX9_put 41 = .ok (.iload 4, 2) := by decide +kernel
theorem dX9_put_43 : decode cX9_put 43 = .ok (.invokevirtual 80, 3) := by decide +kernel
theorem dX9_put_46 : decode cX9_put 46 = .ok (.iconst 1, 1) := by decide +kernel
theorem dX9_put_47 : decode cX9_put 47 = .ok (.ireturn, 1) := by decide +kernel
theorem dX9_tear_0 : decode cX9_tear 0 = .ok (.aload_n 0, 1) := by decide +kernel
theorem dX9_tear_1 : decode cX9_tear 1 = .ok (.iload_n 1, 1) := by decide +kernel
theorem dX9_tear_2 : decode cX9_tear 2 = .ok (.iload_n 2, 1) := by decide +kernel
theorem dX9_tear_3 : decode cX9_tear 3 = .ok (.invokevirtual 68, 3) := by decide +kernel
theorem dX9_tear_6 : decode cX9_tear 6 = .ok (.iload_n 2, 1) := by decide +kernel
theorem dX9_tear_7 : decode cX9_tear 7 = .ok (.invokevirtual 84, 3) := by decide +kernel
theorem dX9_tear_10 : decode cX9_tear 10 = .ok (.ireturn, 1) := by decide +kernel
theorem dX9_word_0 : decode cX9_word 0 = .ok (.aload_n 0, 1) := by decide +kernel
theorem dX9_word_1 : decode cX9_word 1 = .ok (.iload_n 1, 1) := by decide +kernel
theorem dX9_word_2 : decode cX9_word 2 = .ok (.iload_n 2, 1) := by decide +kernel
theorem dX9_word_3 : decode cX9_word 3 = .ok (.invokevirtual 87, 3) := by decide +kernel
theorem dX9_word_6 : decode cX9_word 6 = .ok (.ireturn, 1) := by decide +kernel
theorem dX9_letter_0 : decode cX9_letter 0 = .ok (.aload_n 0, 1) := by decide +kernel
theorem dX9_letter_1 : decode cX9_letter 1 = .ok (.iload_n 1, 1) := by decide +kernel
theorem dX9_letter_2 : decode cX9_letter 2 = .ok (.iload_n 2, 1) := by decide +kernel
theorem dX9_letter_3 : decode cX9_letter 3 = .ok (.invokevirtual 87, 3) := by decide +kernel
theorem dX9_letter_6 : decode cX9_letter 6 = .ok (.istore 4, 2) := by decide +kernel
theorem dX9_letter_8 : decode cX9_letter 8 = .ok (.iload_n 3, 1) := by decide +kernel
theorem dX9_letter_9 : decode cX9_letter 9 = .ok (.ifCond .lt 18, 3) := by decide +kernel
theorem dX9_letter_12 : decode cX9_letter 12 = .ok (.iload_n 3, 1) := by decide +kernel
theorem dX9_letter_13 : decode cX9_letter 13 = .ok (.iload 4, 2) := by decide +kernel
theorem dX9_letter_15 : decode cX9_letter 15 = .ok (.if_icmp .ge 12, 3) := by decide +kernel
theorem dX9_letter_18 : decode cX9_letter 18 = .ok (.aload_n 0, 1) := by decide +kernel
theorem dX9_letter_19 : decode cX9_letter 19 = .ok (.getfield 42, 3) := by decide +kernel
theorem dX9_letter_22 : decode cX9_letter 22 = .ok (.iload_n 3, 1) := by decide +kernel
theorem dX9_letter_23 : decode cX9_letter 23 = .ok (.iaload, 1) := by decide +kernel
theorem dX9_letter_24 : decode cX9_letter 24 = .ok (.goto 4, 3) := by decide +kernel
theorem dX9_letter_27 : decode cX9_letter 27 = .ok (.iconst (-1), 1) := by decide +kernel
theorem dX9_letter_28 : decode cX9_letter 28 = .ok (.ireturn, 1) := by decide +kernel
theorem dX9_law_0 : decode cX9_law 0 = .ok (.iload_n 1, 1) := by decide +kernel
theorem dX9_law_1 : decode cX9_law 1 = .ok (.ifCond .lt 8, 3) := by decide +kernel
theorem dX9_law_4 : decode cX9_law 4 = .ok (.iload_n 1, 1) := by decide +kernel
theorem dX9_law_5 : decode cX9_law 5 = .ok (.iconst 5, 1) := by decide +kernel
theorem dX9_law_6 : decode cX9_law 6 = .ok (.if_icmp .le 13, 3) := by decide +kernel
theorem dX9_law_9 : decode cX9_law 9 = .ok (.new 49, 3) := by decide +kernel
theorem dX9_law_12 : decode cX9_law 12 = .ok (.dup, 1) := by decide +kernel
theorem dX9_law_13 : decode cX9_law 13 = .ok (.ldc 91, 2) := by decide +kernel
theorem dX9_law_15 : decode cX9_law 15 = .ok (.invokespecial 53, 3) := by decide +kernel
theorem dX9_law_18 : decode cX9_law 18 = .ok (.athrow, 1) := by decide +kernel
theorem dX9_law_19 : decode cX9_law 19 = .ok (.iload_n 1, 1) := by decide +kernel
theorem dX9_law_20 : decode cX9_law 20 = .ok (.ifCond .eq 8, 3) := by decide +kernel
theorem dX9_law_23 : decode cX9_law 23 = .ok (.iload_n 1, 1) := by decide +kernel
theorem dX9_law_24 : decode cX9_law 24 = .ok (.iconst 5, 1) := by decide +kernel
theorem dX9_law_25 : decode cX9_law 25 = .ok (.if_icmp .ne 7, 3) := by decide +kernel
theorem dX9_law_28 : decode cX9_law 28 = .ok (.iconst 1, 1) := by decide +kernel
theorem dX9_law_29 : decode cX9_law 29 = .ok (.goto 4, 3) := by decide +kernel
theorem dX9_law_32 : decode cX9_law 32 = .ok (.iconst 0, 1) := by decide +kernel
theorem dX9_law_33 : decode cX9_law 33 = .ok (.istore 4, 2) := by decide +kernel
theorem dX9_law_35 : decode cX9_law 35 = .ok (.iload 4, 2) := by decide +kernel
theorem dX9_law_37 : decode cX9_law 37 = .ok (.ifCond .eq 13, 3) := by decide +kernel
theorem dX9_law_40 : decode cX9_law 40 = .ok (.aload_n 0, 1) := by decide +kernel
theorem dX9_law_41 : decode cX9_law 41 = .ok (.iload_n 1, 1) := by decide +kernel
theorem dX9_law_42 : decode cX9_law 42 = .ok (.iload_n 2, 1) := by decide +kernel
theorem dX9_law_43 : decode cX9_law 43 = .ok (.iload_n 3, 1) := by decide +kernel
theorem dX9_law_44 : decode cX9_law 44 = .ok (.invokevirtual 93, 3) := by decide +kernel
theorem dX9_law_47 : decode cX9_law 47 = .ok (.goto 9, 3) := by decide +kernel
theorem dX9_law_50 : decode cX9_law 50 = .ok (.iload_n 1, 1) := by decide +kernel
theorem dX9_law_51 : decode cX9_law 51 = .ok (.iload_n 2, 1) := by decide +kernel
theorem dX9_law_52 : decode cX9_law 52 = .ok (.iload_n 3, 1) := by decide +kernel
theorem dX9_law_53 : decode cX9_law 53 = .ok (.invokestatic 97, 3) := by decide +kernel
theorem dX9_law_56 : decode cX9_law 56 = .ok (.astore 5, 2) := by decide +kernel
theorem dX9_law_58 : decode cX9_law 58 = .ok (.aload 5, 2) := by decide +kernel
theorem dX9_law_60 : decode cX9_law 60 = .ok (.ifnonnull 5, 3) := by decide +kernel
theorem dX9_law_63 : decode cX9_law 63 = .ok (.iconst (-1), 1) := by decide +kernel
theorem dX9_law_64 : decode cX9_law 64 = .ok (.ireturn, 1) := by decide +kernel
theorem dX9_law_65 : decode cX9_law 65 = .ok (.aload_n 0, 1) := by decide +kernel
theorem dX9_law_66 : decode cX9_law 66 = .ok (.getfield 100, 3) := by decide +kernel
theorem dX9_law_69 : decode cX9_law 69 = .ok (.aload_n 0, 1) := by decide +kernel
theorem dX9_law_70 : decode cX9_law 70 = .ok (.getfield 17, 3) := by decide +kernel
theorem dX9_law_73 : decode cX9_law 73 = .ok (.arraylength, 1) := by decide +kernel
theorem dX9_law_74 : decode cX9_law 74 = .ok (.if_icmp .lt 6, 3) := by decide +kernel
theorem dX9_law_77 : decode cX9_law 77 = .ok (.bipush (-2), 2) := by decide +kernel
theorem dX9_law_79 : decode cX9_law 79 = .ok (.ireturn, 1) := by decide +kernel
theorem dX9_law_80 : decode cX9_law 80 = .ok (.aload_n 0, 1) := by decide +kernel
theorem dX9_law_81 : decode cX9_law 81 = .ok (.getfield 17, 3) := by decide +kernel
theorem dX9_law_84 : decode cX9_law 84 = .ok (.aload_n 0, 1) := by decide +kernel
theorem dX9_law_85 : decode cX9_law 85 = .ok (.getfield 100, 3) := by decide +kernel
theorem dX9_law_88 : decode cX9_law 88 = .ok (.aload 5, 2) := by decide +kernel
theorem dX9_law_90 : decode cX9_law 90 = .ok (.aastore, 1) := by decide +kernel
theorem dX9_law_91 : decode cX9_law 91 = .ok (.aload_n 0, 1) := by decide +kernel
theorem dX9_law_92 : decode cX9_law 92 = .ok (.dup, 1) := by decide +kernel
theorem dX9_law_93 : decode cX9_law 93 = .ok (.getfield 100, 3) := by decide +kernel
theorem dX9_law_96 : decode cX9_law 96 = .ok (.iconst 1, 1) := by decide +kernel
theorem dX9_law_97 : decode cX9_law 97 = .ok (.iadd, 1) := by decide +kernel
theorem dX9_law_98 : decode cX9_law 98 = .ok (.putfield 100, 3) := by decide +kernel
theorem dX9_law_101 : decode cX9_law 101 = .ok (.aload_n 0, 1) := by decide +kernel
theorem dX9_law_102 : decode cX9_law 102 = .ok (.getfield 100, 3) := by decide +kernel
theorem dX9_law_105 : decode cX9_law 105 = .ok (.iconst 1, 1) := by decide +kernel
theorem dX9_law_106 : decode cX9_law 106 = .ok (.isub, 1) := by decide +kernel
theorem dX9_law_107 : decode cX9_law 107 = .ok (.ireturn, 1) := by decide +kernel
theorem dX9_count_0 : decode cX9_count 0 = .ok (.iload_n 1, 1) := by decide +kernel
theorem dX9_count_1 : decode cX9_count 1 = .ok (.tableswitch 45 0 2 #[27, 32, 37], 27) := by decide +kernel
theorem dX9_count_28 : decode cX9_count 28 = .ok (.aload_n 0, 1) := by decide +kernel
theorem dX9_count_29 : decode cX9_count 29 = .ok (.getfield 56, 3) := by decide +kernel
theorem dX9_count_32 : decode cX9_count 32 = .ok (.ireturn, 1) := by decide +kernel
theorem dX9_count_33 : decode cX9_count 33 = .ok (.aload_n 0, 1) := by decide +kernel
theorem dX9_count_34 : decode cX9_count 34 = .ok (.getfield 100, 3) := by decide +kernel
theorem dX9_count_37 : decode cX9_count 37 = .ok (.ireturn, 1) := by decide +kernel
theorem dX9_count_38 : decode cX9_count 38 = .ok (.aload_n 0, 1) := by decide +kernel
theorem dX9_count_39 : decode cX9_count 39 = .ok (.getfield 38, 3) := by decide +kernel
theorem dX9_count_42 : decode cX9_count 42 = .ok (.getfield 103, 3) := by decide +kernel
theorem dX9_count_45 : decode cX9_count 45 = .ok (.ireturn, 1) := by decide +kernel
theorem dX9_count_46 : decode cX9_count 46 = .ok (.iconst (-1), 1) := by decide +kernel
theorem dX9_count_47 : decode cX9_count 47 = .ok (.ireturn, 1) := by decide +kernel
theorem dX9_power_0 : decode cX9_power 0 = .ok (.aload_n 0, 1) := by decide +kernel
theorem dX9_power_1 : decode cX9_power 1 = .ok (.iload_n 1, 1) := by decide +kernel
theorem dX9_power_2 : decode cX9_power 2 = .ok (.iload_n 2, 1) := by decide +kernel
theorem dX9_power_3 : decode cX9_power 3 = .ok (.invokevirtual 87, 3) := by decide +kernel
theorem dX9_power_6 : decode cX9_power 6 = .ok (.istore 4, 2) := by decide +kernel
theorem dX9_power_8 : decode cX9_power 8 = .ok (.iload_n 3, 1) := by decide +kernel
theorem dX9_power_9 : decode cX9_power 9 = .ok (.iconst 3, 1) := by decide +kernel
theorem dX9_power_10 : decode cX9_power 10 = .ok (.invokestatic 106, 3) := by decide +kernel
theorem dX9_power_13 : decode cX9_power 13 = .ok (.iload 4, 2) := by decide +kernel
theorem dX9_power_15 : decode cX9_power 15 = .ok (.ifCond .gt 6, 3) := by decide +kernel
theorem dX9_power_18 : decode cX9_power 18 = .ok (.iload 4, 2) := by decide +kernel
theorem dX9_power_20 : decode cX9_power 20 = .ok (.ireturn, 1) := by decide +kernel
theorem dX9_power_21 : decode cX9_power 21 = .ok (.iload_n 3, 1) := by decide +kernel
theorem dX9_power_22 : decode cX9_power 22 = .ok (.iconst 3, 1) := by decide +kernel
theorem dX9_power_23 : decode cX9_power 23 = .ok (.if_icmp .ne 12, 3) := by decide +kernel
theorem dX9_power_26 : decode cX9_power 26 = .ok (.aload_n 0, 1) := by decide +kernel
theorem dX9_power_27 : decode cX9_power 27 = .ok (.iload 4, 2) := by decide +kernel
theorem dX9_power_29 : decode cX9_power 29 = .ok (.iconst (-1), 1) := by decide +kernel
theorem dX9_power_30 : decode cX9_power 30 = .ok (.iconst 0, 1) := by decide +kernel
theorem dX9_power_31 : decode cX9_power 31 = .ok (.invokevirtual 109, 3) := by decide +kernel
theorem dX9_power_34 : decode cX9_power 34 = .ok (.ireturn, 1) := by decide +kernel
theorem dX9_power_35 : decode cX9_power 35 = .ok (.aload_n 0, 1) := by decide +kernel
theorem dX9_power_36 : decode cX9_power 36 = .ok (.getfield 42, 3) := by decide +kernel
theorem dX9_power_39 : decode cX9_power 39 = .ok (.iconst 0, 1) := by decide +kernel
theorem dX9_power_40 : decode cX9_power 40 = .ok (.iload 4, 2) := by decide +kernel
theorem dX9_power_42 : decode cX9_power 42 = .ok (.invokestatic 113, 3) := by decide +kernel
theorem dX9_power_45 : decode cX9_power 45 = .ok (.istore 5, 2) := by decide +kernel
theorem dX9_power_47 : decode cX9_power 47 = .ok (.iload_n 3, 1) := by decide +kernel
theorem dX9_power_48 : decode cX9_power 48 = .ok (.ifCond .ne 6, 3) := by decide +kernel
theorem dX9_power_51 : decode cX9_power 51 = .ok (.iload 5, 2) := by decide +kernel
theorem dX9_power_53 : decode cX9_power 53 = .ok (.ireturn, 1) := by decide +kernel
theorem dX9_power_54 : decode cX9_power 54 = .ok (.iload_n 3, 1) := by decide +kernel
theorem dX9_power_55 : decode cX9_power 55 = .ok (.iconst 1, 1) := by decide +kernel
theorem dX9_power_56 : decode cX9_power 56 = .ok (.if_icmp .ne 8, 3) := by decide +kernel
theorem dX9_power_59 : decode cX9_power 59 = .ok (.iload 4, 2) := by decide +kernel
theorem dX9_power_61 : decode cX9_power 61 = .ok (.goto 5, 3) := by decide +kernel
theorem dX9_power_64 : decode cX9_power 64 = .ok (.iload 5, 2) := by decide +kernel
theorem dX9_power_66 : decode cX9_power 66 = .ok (.iload_n 3, 1) := by decide +kernel
theorem dX9_power_67 : decode cX9_power 67 = .ok (.iconst 1, 1) := by decide +kernel
theorem dX9_power_68 : decode cX9_power 68 = .ok (.if_icmp .ne 8, 3) := by decide +kernel
theorem dX9_power_71 : decode cX9_power 71 = .ok (.iload 5, 2) := by decide +kernel
theorem dX9_power_73 : decode cX9_power 73 = .ok (.goto 5, 3) := by decide +kernel
theorem dX9_power_76 : decode cX9_power 76 = .ok (.iload 4, 2) := by decide +kernel
theorem dX9_power_78 : decode cX9_power 78 = .ok (.invokestatic 117, 3) := by decide +kernel
theorem dX9_power_81 : decode cX9_power 81 = .ok (.ireturn, 1) := by decide +kernel
theorem dX9_run_0 : decode cX9_run 0 = .ok (.aload_n 0, 1) := by decide +kernel
theorem dX9_run_1 : decode cX9_run 1 = .ok (.iload_n 1, 1) := by decide +kernel
theorem dX9_run_2 : decode cX9_run 2 = .ok (.iload_n 2, 1) := by decide +kernel
theorem dX9_run_3 : decode cX9_run 3 = .ok (.invokevirtual 87, 3) := by decide +kernel
theorem dX9_run_6 : decode cX9_run 6 = .ok (.istore 5, 2) := by decide +kernel
theorem dX9_run_8 : decode cX9_run 8 = .ok (.iload 4, 2) := by decide +kernel
theorem dX9_run_10 : decode cX9_run 10 = .ok (.iconst 2, 1) := by decide +kernel
theorem dX9_run_11 : decode cX9_run 11 = .ok (.invokestatic 106, 3) := by decide +kernel
theorem dX9_run_14 : decode cX9_run 14 = .ok (.iload_n 3, 1) := by decide +kernel
theorem dX9_run_15 : decode cX9_run 15 = .ok (.ifCond .ge 7, 3) := by decide +kernel
theorem dX9_run_18 : decode cX9_run 18 = .ok (.iconst (-1), 1) := by decide +kernel
theorem dX9_run_19 : decode cX9_run 19 = .ok (.goto 12, 3) := by decide +kernel
theorem dX9_run_22 : decode cX9_run 22 = .ok (.aload_n 0, 1) := by decide +kernel
theorem dX9_run_23 : decode cX9_run 23 = .ok (.iload 5, 2) := by decide +kernel
theorem dX9_run_25 : decode cX9_run 25 = .ok (.iload_n 3, 1) := by decide +kernel
theorem dX9_run_26 : decode cX9_run 26 = .ok (.iload 4, 2) := by decide +kernel
theorem dX9_run_28 : decode cX9_run 28 = .ok (.invokevirtual 109, 3) := by decide +kernel
theorem dX9_run_31 : decode cX9_run 31 = .ok (.ireturn, 1) := by decide +kernel
theorem dX9_clash_0 : decode cX9_clash 0 = .ok (.aload_n 0, 1) := by decide +kernel
theorem dX9_clash_1 : decode cX9_clash 1 = .ok (.iload_n 2, 1) := by decide +kernel
theorem dX9_clash_2 : decode cX9_clash 2 = .ok (.iload_n 3, 1) := by decide +kernel
theorem dX9_clash_3 : decode cX9_clash 3 = .ok (.invokevirtual 87, 3) := by decide +kernel
theorem dX9_clash_6 : decode cX9_clash 6 = .ok (.istore 5, 2) := by decide +kernel
theorem dX9_clash_8 : decode cX9_clash 8 = .ok (.aload_n 0, 1) := by decide +kernel
theorem dX9_clash_9 : decode cX9_clash 9 = .ok (.iload_n 1, 1) := by decide +kernel
theorem dX9_clash_10 : decode cX9_clash 10 = .ok (.invokevirtual 120, 3) := by decide +kernel
theorem dX9_clash_13 : decode cX9_clash 13 = .ok (.iload 4, 2) := by decide +kernel
theorem dX9_clash_15 : decode cX9_clash 15 = .ok (.iconst 3, 1) := by decide +kernel
theorem dX9_clash_16 : decode cX9_clash 16 = .ok (.invokestatic 106, 3) := by decide +kernel
theorem dX9_clash_19 : decode cX9_clash 19 = .ok (.iload 5, 2) := by decide +kernel
theorem dX9_clash_21 : decode cX9_clash 21 = .ok (.ifCond .ge 6, 3) := by decide +kernel
theorem dX9_clash_24 : decode cX9_clash 24 = .ok (.bipush (-2), 2) := by decide +kernel
theorem dX9_clash_26 : decode cX9_clash 26 = .ok (.ireturn, 1) := by decide +kernel
theorem dX9_clash_27 : decode cX9_clash 27 = .ok (.aload_n 0, 1) := by decide +kernel
theorem dX9_clash_28 : decode cX9_clash 28 = .ok (.iload_n 1, 1) := by decide +kernel
theorem dX9_clash_29 : decode cX9_clash 29 = .ok (.iload 5, 2) := by decide +kernel
theorem dX9_clash_31 : decode cX9_clash 31 = .ok (.invokevirtual 123, 3) := by decide +kernel
theorem dX9_clash_34 : decode cX9_clash 34 = .ok (.istore 6, 2) := by decide +kernel
theorem dX9_clash_36 : decode cX9_clash 36 = .ok (.iload 4, 2) := by decide +kernel
theorem dX9_clash_38 : decode cX9_clash 38 = .ok (.ifCond .ne 15, 3) := by decide +kernel
theorem dX9_clash_41 : decode cX9_clash 41 = .ok (.iload 6, 2) := by decide +kernel
theorem dX9_clash_43 : decode cX9_clash 43 = .ok (.iconst (-1), 1) := by decide +kernel
theorem dX9_clash_44 : decode cX9_clash 44 = .ok (.if_icmp .ne 7, 3) := by decide +kernel
theorem dX9_clash_47 : decode cX9_clash 47 = .ok (.iconst 1, 1) := by decide +kernel
theorem dX9_clash_48 : decode cX9_clash 48 = .ok (.goto 4, 3) := by decide +kernel
theorem dX9_clash_51 : decode cX9_clash 51 = .ok (.iconst 0, 1) := by decide +kernel
theorem dX9_clash_52 : decode cX9_clash 52 = .ok (.ireturn, 1) := by decide +kernel
theorem dX9_clash_53 : decode cX9_clash 53 = .ok (.iload 6, 2) := by decide +kernel
theorem dX9_clash_55 : decode cX9_clash 55 = .ok (.iconst (-1), 1) := by decide +kernel
theorem dX9_clash_56 : decode cX9_clash 56 = .ok (.if_icmp .eq 9, 3) := by decide +kernel
theorem dX9_clash_59 : decode cX9_clash 59 = .ok (.iload 4, 2) := by decide +kernel
theorem dX9_clash_61 : decode cX9_clash 61 = .ok (.iconst 1, 1) := by decide +kernel
theorem dX9_clash_62 : decode cX9_clash 62 = .ok (.if_icmp .ne 6, 3) := by decide +kernel
theorem dX9_clash_65 : decode cX9_clash 65 = .ok (.iload 6, 2) := by decide +kernel
theorem dX9_clash_67 : decode cX9_clash 67 = .ok (.ireturn, 1) := by decide +kernel
theorem dX9_clash_68 : decode cX9_clash 68 = .ok (.aload_n 0, 1) := by decide +kernel
theorem dX9_clash_69 : decode cX9_clash 69 = .ok (.getfield 17, 3) := by decide +kernel
theorem dX9_clash_72 : decode cX9_clash 72 = .ok (.iload_n 1, 1) := by decide +kernel
theorem dX9_clash_73 : decode cX9_clash 73 = .ok (.aload_n 0, 1) := by decide +kernel
theorem dX9_clash_74 : decode cX9_clash 74 = .ok (.getfield 42, 3) := by decide +kernel
theorem dX9_clash_77 : decode cX9_clash 77 = .ok (.iload 6, 2) := by decide +kernel
theorem dX9_clash_79 : decode cX9_clash 79 = .ok (.invokestatic 126, 3) := by decide +kernel
theorem dX9_clash_82 : decode cX9_clash 82 = .ok (.istore 7, 2) := by decide +kernel
theorem dX9_clash_84 : decode cX9_clash 84 = .ok (.iload 4, 2) := by decide +kernel
theorem dX9_clash_86 : decode cX9_clash 86 = .ok (.iconst 2, 1) := by decide +kernel
theorem dX9_clash_87 : decode cX9_clash 87 = .ok (.if_icmp .eq 9, 3) := by decide +kernel
theorem dX9_clash_90 : decode cX9_clash 90 = .ok (.iload 7, 2) := by decide +kernel
theorem dX9_clash_92 : decode cX9_clash 92 = .ok (.iconst (-1), 1) := by decide +kernel
theorem dX9_clash_93 : decode cX9_clash 93 = .ok (.if_icmp .ne 6, 3) := by decide +kernel
theorem dX9_clash_96 : decode cX9_clash 96 = .ok (.iload 7, 2) := by decide +kernel
theorem dX9_clash_98 : decode cX9_clash 98 = .ok (.ireturn, 1) := by decide +kernel
theorem dX9_clash_99 : decode cX9_clash 99 = .ok (.aload_n 0, 1) := by decide +kernel
theorem dX9_clash_100 : decode cX9_clash 100 = .ok (.getfield 17, 3) := by decide +kernel
theorem dX9_clash_103 : decode cX9_clash 103 = .ok (.iload 7, 2) := by decide +kernel
theorem dX9_clash_105 : decode cX9_clash 105 = .ok (.aaload, 1) := by decide +kernel
theorem dX9_clash_106 : decode cX9_clash 106 = .ok (.aload_n 0, 1) := by decide +kernel
theorem dX9_clash_107 : decode cX9_clash 107 = .ok (.getfield 42, 3) := by decide +kernel
theorem dX9_clash_110 : decode cX9_clash 110 = .ok (.iload 6, 2) := by decide +kernel
theorem dX9_clash_112 : decode cX9_clash 112 = .ok (.invokevirtual 130, 3) := by decide +kernel
theorem dX9_clash_115 : decode cX9_clash 115 = .ok (.ireturn, 1) := by decide +kernel
theorem dX9_many_0 : decode cX9_many 0 = .ok (.aload_n 0, 1) := by decide +kernel
theorem dX9_many_1 : decode cX9_many 1 = .ok (.iload_n 1, 1) := by decide +kernel
theorem dX9_many_2 : decode cX9_many 2 = .ok (.iload_n 2, 1) := by decide +kernel
theorem dX9_many_3 : decode cX9_many 3 = .ok (.iload_n 3, 1) := by decide +kernel
theorem dX9_many_4 : decode cX9_many 4 = .ok (.invokevirtual 134, 3) := by decide +kernel
theorem dX9_many_7 : decode cX9_many 7 = .ok (.aload_n 0, 1) := by decide +kernel
theorem dX9_many_8 : decode cX9_many 8 = .ok (.getfield 38, 3) := by decide +kernel
theorem dX9_many_11 : decode cX9_many 11 = .ok (.invokevirtual 137, 3) := by decide +kernel
theorem dX9_many_14 : decode cX9_many 14 = .ok (.aload_n 0, 1) := by decide +kernel
theorem dX9_many_15 : decode cX9_many 15 = .ok (.getfield 38, 3) := by decide +kernel
theorem dX9_many_18 : decode cX9_many 18 = .ok (.aload_n 0, 1) := by decide +kernel
theorem dX9_many_19 : decode cX9_many 19 = .ok (.getfield 17, 3) := by decide +kernel
theorem dX9_many_22 : decode cX9_many 22 = .ok (.iload_n 1, 1) := by decide +kernel
theorem dX9_many_23 : decode cX9_many 23 = .ok (.iload_n 2, 1) := by decide +kernel
theorem dX9_many_24 : decode cX9_many 24 = .ok (.iload_n 3, 1) := by decide +kernel
theorem dX9_many_25 : decode cX9_many 25 = .ok (.invokevirtual 140, 3) := by decide +kernel
theorem dX9_many_28 : decode cX9_many 28 = .ok (.aload_n 0, 1) := by decide +kernel
theorem dX9_many_29 : decode cX9_many 29 = .ok (.getfield 38, 3) := by decide +kernel
theorem dX9_many_32 : decode cX9_many 32 = .ok (.sipush 20001, 3) := by decide +kernel
theorem dX9_many_35 : decode cX9_many 35 = .ok (.invokevirtual 144, 3) := by decide +kernel
theorem dX9_many_38 : decode cX9_many 38 = .ok (.bipush (-2), 2) := by decide +kernel
theorem dX9_many_40 : decode cX9_many 40 = .ok (.if_icmp .ne 8, 3) := by decide +kernel
theorem dX9_many_43 : decode cX9_many 43 = .ok (.bipush (-2), 2) := by decide +kernel
theorem dX9_many_45 : decode cX9_many 45 = .ok (.goto 10, 3) := by decide +kernel
theorem dX9_many_48 : decode cX9_many 48 = .ok (.aload_n 0, 1) := by decide +kernel
theorem dX9_many_49 : decode cX9_many 49 = .ok (.getfield 38, 3) := by decide +kernel
theorem dX9_many_52 : decode cX9_many 52 = .ok (.getfield 147, 3) := by decide +kernel
theorem dX9_many_55 : decode cX9_many 55 = .ok (.ireturn, 1) := by decide +kernel
theorem dX9_find_0 : decode cX9_find 0 = .ok (.aload_n 0, 1) := by decide +kernel
theorem dX9_find_1 : decode cX9_find 1 = .ok (.iload_n 1, 1) := by decide +kernel
theorem dX9_find_2 : decode cX9_find 2 = .ok (.iload_n 2, 1) := by decide +kernel
theorem dX9_find_3 : decode cX9_find 3 = .ok (.iload_n 3, 1) := by decide +kernel
theorem dX9_find_4 : decode cX9_find 4 = .ok (.invokevirtual 134, 3) := by decide +kernel
theorem dX9_find_7 : decode cX9_find 7 = .ok (.aload_n 0, 1) := by decide +kernel
theorem dX9_find_8 : decode cX9_find 8 = .ok (.iload 5, 2) := by decide +kernel
theorem dX9_find_10 : decode cX9_find 10 = .ok (.invokevirtual 150, 3) := by decide +kernel
theorem dX9_find_13 : decode cX9_find 13 = .ok (.astore 6, 2) := by decide +kernel
theorem dX9_find_15 : decode cX9_find 15 = .ok (.iload 4, 2) := by decide +kernel
theorem dX9_find_17 : decode cX9_find 17 = .ok (.ifCond .ge 5, 3) := by decide +kernel
theorem dX9_find_20 : decode cX9_find 20 = .ok (.iconst 0, 1) := by decide +kernel
theorem dX9_find_21 : decode cX9_find 21 = .ok (.ireturn, 1) := by decide +kernel
theorem dX9_find_22 : decode cX9_find 22 = .ok (.aload_n 0, 1) := by decide +kernel
theorem dX9_find_23 : decode cX9_find 23 = .ok (.getfield 38, 3) := by decide +kernel
theorem dX9_find_26 : decode cX9_find 26 = .ok (.invokevirtual 137, 3) := by decide +kernel
theorem dX9_find_29 : decode cX9_find 29 = .ok (.aload_n 0, 1) := by decide +kernel
theorem dX9_find_30 : decode cX9_find 30 = .ok (.getfield 38, 3) := by decide +kernel
theorem dX9_find_33 : decode cX9_find 33 = .ok (.aload_n 0, 1) := by decide +kernel
theorem dX9_find_34 : decode cX9_find 34 = .ok (.getfield 17, 3) := by decide +kernel
theorem dX9_find_37 : decode cX9_find 37 = .ok (.iload_n 1, 1) := by decide +kernel
theorem dX9_find_38 : decode cX9_find 38 = .ok (.iload_n 2, 1) := by decide +kernel
theorem dX9_find_39 : decode cX9_find 39 = .ok (.iload_n 3, 1) := by decide +kernel
theorem dX9_find_40 : decode cX9_find 40 = .ok (.invokevirtual 140, 3) := by decide +kernel
theorem dX9_find_43 : decode cX9_find 43 = .ok (.aload_n 0, 1) := by decide +kernel
theorem dX9_find_44 : decode cX9_find 44 = .ok (.getfield 38, 3) := by decide +kernel
theorem dX9_find_47 : decode cX9_find 47 = .ok (.iload 4, 2) := by decide +kernel
theorem dX9_find_49 : decode cX9_find 49 = .ok (.sipush 20000, 3) := by decide +kernel
theorem dX9_find_52 : decode cX9_find 52 = .ok (.invokestatic 154, 3) := by decide +kernel
theorem dX9_find_55 : decode cX9_find 55 = .ok (.iconst 1, 1) := by decide +kernel
theorem dX9_find_56 : decode cX9_find 56 = .ok (.iadd, 1) := by decide +kernel
theorem dX9_find_57 : decode cX9_find 57 = .ok (.invokevirtual 144, 3) := by decide +kernel
theorem dX9_find_60 : decode cX9_find 60 = .ok (.istore 7, 2) := by decide +kernel
theorem dX9_find_62 : decode cX9_find 62 = .ok (.iload 7, 2) := by decide +kernel
theorem dX9_find_64 : decode cX9_find 64 = .ok (.iconst 1, 1) := by decide +kernel
theorem dX9_find_65 : decode cX9_find 65 = .ok (.if_icmp .ne 17, 3) := by decide +kernel
theorem dX9_find_68 : decode cX9_find 68 = .ok (.aload 6, 2) := by decide +kernel
theorem dX9_find_70 : decode cX9_find 70 = .ok (.iconst 0, 1) := by decide +kernel
theorem dX9_find_71 : decode cX9_find 71 = .ok (.aload_n 0, 1) := by decide +kernel
theorem dX9_find_72 : decode cX9_find 72 = .ok (.getfield 38, 3) := by decide +kernel
theorem dX9_find_75 : decode cX9_find 75 = .ok (.getfield 159, 3) := by decide +kernel
theorem dX9_find_78 : decode cX9_find 78 = .ok (.iload_n 3, 1) := by decide +kernel
theorem dX9_find_79 : decode cX9_find 79 = .ok (.invokevirtual 162, 3) := by decide +kernel
theorem dX9_find_82 : decode cX9_find 82 = .ok (.iload 7, 2) := by decide +kernel
theorem dX9_find_84 : decode cX9_find 84 = .ok (.ireturn, 1) := by decide +kernel
theorem dX9_rank_0 : decode cX9_rank 0 = .ok (.aload_n 0, 1) := by decide +kernel
theorem dX9_rank_1 : decode cX9_rank 1 = .ok (.iload_n 1, 1) := by decide +kernel
theorem dX9_rank_2 : decode cX9_rank 2 = .ok (.invokevirtual 120, 3) := by decide +kernel
theorem dX9_rank_5 : decode cX9_rank 5 = .ok (.iload_n 2, 1) := by decide +kernel
theorem dX9_rank_6 : decode cX9_rank 6 = .ok (.invokestatic 166, 3) := by decide +kernel
theorem dX9_rank_9 : decode cX9_rank 9 = .ok (.aload_n 0, 1) := by decide +kernel
theorem dX9_rank_10 : decode cX9_rank 10 = .ok (.iload_n 3, 1) := by decide +kernel
theorem dX9_rank_11 : decode cX9_rank 11 = .ok (.iload 4, 2) := by decide +kernel
theorem dX9_rank_13 : decode cX9_rank 13 = .ok (.invokevirtual 87, 3) := by decide +kernel
theorem dX9_rank_16 : decode cX9_rank 16 = .ok (.istore 5, 2) := by decide +kernel
theorem dX9_rank_18 : decode cX9_rank 18 = .ok (.iload 5, 2) := by decide +kernel
theorem dX9_rank_20 : decode cX9_rank 20 = .ok (.ifCond .lt 27, 3) := by decide +kernel
theorem dX9_rank_23 : decode cX9_rank 23 = .ok (.aload_n 0, 1) := by decide +kernel
theorem dX9_rank_24 : decode cX9_rank 24 = .ok (.getfield 42, 3) := by decide +kernel
theorem dX9_rank_27 : decode cX9_rank 27 = .ok (.iload 5, 2) := by decide +kernel
theorem dX9_rank_29 : decode cX9_rank 29 = .ok (.iload_n 2, 1) := by decide +kernel
theorem dX9_rank_30 : decode cX9_rank 30 = .ok (.invokestatic 169, 3) := by decide +kernel
theorem dX9_rank_33 : decode cX9_rank 33 = .ok (.ifCond .eq 14, 3) := by decide +kernel
theorem dX9_rank_36 : decode cX9_rank 36 = .ok (.aload_n 0, 1) := by decide +kernel
theorem dX9_rank_37 : decode cX9_rank 37 = .ok (.iload_n 1, 1) := by decide +kernel
theorem dX9_rank_38 : decode cX9_rank 38 = .ok (.iload 5, 2) := by decide +kernel
theorem dX9_rank_40 : decode cX9_rank 40 = .ok (.invokevirtual 123, 3) := by decide +kernel
theorem dX9_rank_43 : decode cX9_rank 43 = .ok (.iconst (-1), 1) := by decide +kernel
theorem dX9_rank_44 : decode cX9_rank 44 = .ok (.if_icmp .eq 5, 3) := by decide +kernel
theorem dX9_rank_47 : decode cX9_rank 47 = .ok (.iconst (-1), 1) := by decide +kernel
theorem dX9_rank_48 : decode cX9_rank 48 = .ok (.ireturn, 1) := by decide +kernel
theorem dX9_rank_49 : decode cX9_rank 49 = .ok (.aload_n 0, 1) := by decide +kernel
theorem dX9_rank_50 : decode cX9_rank 50 = .ok (.getfield 38, 3) := by decide +kernel
theorem dX9_rank_53 : decode cX9_rank 53 = .ok (.invokevirtual 137, 3) := by decide +kernel
theorem dX9_rank_56 : decode cX9_rank 56 = .ok (.aload_n 0, 1) := by decide +kernel
theorem dX9_rank_57 : decode cX9_rank 57 = .ok (.getfield 38, 3) := by decide +kernel
theorem dX9_rank_60 : decode cX9_rank 60 = .ok (.aload_n 0, 1) := by decide +kernel
theorem dX9_rank_61 : decode cX9_rank 61 = .ok (.getfield 17, 3) := by decide +kernel
theorem dX9_rank_64 : decode cX9_rank 64 = .ok (.iload_n 1, 1) := by decide +kernel
theorem dX9_rank_65 : decode cX9_rank 65 = .ok (.iload_n 2, 1) := by decide +kernel
theorem dX9_rank_66 : decode cX9_rank 66 = .ok (.iload 5, 2) := by decide +kernel
theorem dX9_rank_68 : decode cX9_rank 68 = .ok (.invokevirtual 140, 3) := by decide +kernel
theorem dX9_rank_71 : decode cX9_rank 71 = .ok (.iconst 0, 1) := by decide +kernel
theorem dX9_rank_72 : decode cX9_rank 72 = .ok (.istore 6, 2) := by decide +kernel
theorem dX9_rank_74 : decode cX9_rank 74 = .ok (.iload 6, 2) := by decide +kernel
theorem dX9_rank_76 : decode cX9_rank 76 = .ok (.sipush 20000, 3) := by decide +kernel
theorem dX9_rank_79 : decode cX9_rank 79 = .ok (.if_icmp .gt 45, 3) := by decide +kernel
theorem dX9_rank_82 : decode cX9_rank 82 = .ok (.aload_n 0, 1) := by decide +kernel
theorem dX9_rank_83 : decode cX9_rank 83 = .ok (.getfield 38, 3) := by decide +kernel
theorem dX9_rank_86 : decode cX9_rank 86 = .ok (.invokevirtual 173, 3) := by decide +kernel
theorem dX9_rank_89 : decode cX9_rank 89 = .ok (.iconst 1, 1) := by decide +kernel
theorem dX9_rank_90 : decode cX9_rank 90 = .ok (.if_icmp .eq 6, 3) := by decide +kernel
theorem dX9_rank_93 : decode cX9_rank 93 = .ok (.bipush (-2), 2) := by decide +kernel
theorem dX9_rank_95 : decode cX9_rank 95 = .ok (.ireturn, 1) := by decide +kernel
theorem dX9_rank_96 : decode cX9_rank 96 = .ok (.aload_n 0, 1) := by decide +kernel
theorem dX9_rank_97 : decode cX9_rank 97 = .ok (.getfield 38, 3) := by decide +kernel
theorem dX9_rank_100 : decode cX9_rank 100 = .ok (.getfield 159, 3) := by decide +kernel
theorem dX9_rank_103 : decode cX9_rank 103 = .ok (.aload_n 0, 1) := by decide +kernel
theorem dX9_rank_104 : decode cX9_rank 104 = .ok (.getfield 42, 3) := by decide +kernel
theorem dX9_rank_107 : decode cX9_rank 107 = .ok (.iload 5, 2) := by decide +kernel
theorem dX9_rank_109 : decode cX9_rank 109 = .ok (.invokestatic 177, 3) := by decide +kernel
theorem dX9_rank_112 : decode cX9_rank 112 = .ok (.ifCond .eq 6, 3) := by decide +kernel
theorem dX9_rank_115 : decode cX9_rank 115 = .ok (.iload 6, 2) := by decide +kernel
theorem dX9_rank_117 : decode cX9_rank 117 = .ok (.ireturn, 1) := by decide +kernel
theorem dX9_rank_118 : decode cX9_rank 118 = .ok (.iinc 6 1, 3) := by decide +kernel
theorem dX9_rank_121 : decode cX9_rank 121 = .ok (.goto (-47), 3) := by decide +kernel
theorem dX9_rank_124 : decode cX9_rank 124 = .ok (.bipush (-2), 2) := by decide +kernel
theorem dX9_rank_126 : decode cX9_rank 126 = .ok (.ireturn, 1) := by decide +kernel
theorem dX9_longest_0 : decode cX9_longest 0 = .ok (.aload_n 0, 1) := by decide +kernel
theorem dX9_longest_1 : decode cX9_longest 1 = .ok (.iload_n 1, 1) := by decide +kernel
theorem dX9_longest_2 : decode cX9_longest 2 = .ok (.invokevirtual 120, 3) := by decide +kernel
theorem dX9_longest_5 : decode cX9_longest 5 = .ok (.iload_n 2, 1) := by decide +kernel
theorem dX9_longest_6 : decode cX9_longest 6 = .ok (.invokestatic 166, 3) := by decide +kernel
theorem dX9_longest_9 : decode cX9_longest 9 = .ok (.aload_n 0, 1) := by decide +kernel
theorem dX9_longest_10 : decode cX9_longest 10 = .ok (.getfield 38, 3) := by decide +kernel
theorem dX9_longest_13 : decode cX9_longest 13 = .ok (.invokevirtual 137, 3) := by decide +kernel
theorem dX9_longest_16 : decode cX9_longest 16 = .ok (.aload_n 0, 1) := by decide +kernel
theorem dX9_longest_17 : decode cX9_longest 17 = .ok (.getfield 38, 3) := by decide +kernel
theorem dX9_longest_20 : decode cX9_longest 20 = .ok (.aload_n 0, 1) := by decide +kernel
theorem dX9_longest_21 : decode cX9_longest 21 = .ok (.getfield 17, 3) := by decide +kernel
theorem dX9_longest_24 : decode cX9_longest 24 = .ok (.iload_n 1, 1) := by decide +kernel
theorem dX9_longest_25 : decode cX9_longest 25 = .ok (.iload_n 2, 1) := by decide +kernel
theorem dX9_longest_26 : decode cX9_longest 26 = .ok (.bipush 60, 2) := by decide +kernel
theorem dX9_longest_28 : decode cX9_longest 28 = .ok (.invokevirtual 140, 3) := by decide +kernel
theorem dX9_longest_31 : decode cX9_longest 31 = .ok (.aload_n 0, 1) := by decide +kernel
theorem dX9_longest_32 : decode cX9_longest 32 = .ok (.getfield 38, 3) := by decide +kernel
theorem dX9_longest_35 : decode cX9_longest 35 = .ok (.invokevirtual 173, 3) := by decide +kernel
theorem dX9_longest_38 : decode cX9_longest 38 = .ok (.istore_n 3, 1) := by decide +kernel
theorem dX9_longest_39 : decode cX9_longest 39 = .ok (.iload_n 3, 1) := by decide +kernel
theorem dX9_longest_40 : decode cX9_longest 40 = .ok (.iconst 1, 1) := by decide +kernel
theorem dX9_longest_41 : decode cX9_longest 41 = .ok (.if_icmp .ne 5, 3) := by decide +kernel
theorem dX9_longest_44 : decode cX9_longest 44 = .ok (.iconst (-1), 1) := by decide +kernel
theorem dX9_longest_45 : decode cX9_longest 45 = .ok (.ireturn, 1) := by decide +kernel
theorem dX9_longest_46 : decode cX9_longest 46 = .ok (.iload_n 3, 1) := by decide +kernel
theorem dX9_longest_47 : decode cX9_longest 47 = .ok (.bipush (-2), 2) := by decide +kernel
theorem dX9_longest_49 : decode cX9_longest 49 = .ok (.if_icmp .ne 8, 3) := by decide +kernel
theorem dX9_longest_52 : decode cX9_longest 52 = .ok (.bipush (-2), 2) := by decide +kernel
theorem dX9_longest_54 : decode cX9_longest 54 = .ok (.goto 10, 3) := by decide +kernel
theorem dX9_longest_57 : decode cX9_longest 57 = .ok (.aload_n 0, 1) := by decide +kernel
theorem dX9_longest_58 : decode cX9_longest 58 = .ok (.getfield 38, 3) := by decide +kernel
theorem dX9_longest_61 : decode cX9_longest 61 = .ok (.getfield 181, 3) := by decide +kernel
theorem dX9_longest_64 : decode cX9_longest 64 = .ok (.ireturn, 1) := by decide +kernel
theorem dX9_map_0 : decode cX9_map 0 = .ok (.iload_n 1, 1) := by decide +kernel
theorem dX9_map_1 : decode cX9_map 1 = .ok (.ifCond .lt 9, 3) := by decide +kernel
theorem dX9_map_4 : decode cX9_map 4 = .ok (.iload_n 1, 1) := by decide +kernel
theorem dX9_map_5 : decode cX9_map 5 = .ok (.bipush 8, 2) := by decide +kernel
theorem dX9_map_7 : decode cX9_map 7 = .ok (.if_icmp .lt 13, 3) := by decide +kernel
theorem dX9_map_10 : decode cX9_map 10 = .ok (.new 49, 3) := by decide +kernel
theorem dX9_map_13 : decode cX9_map 13 = .ok (.dup, 1) := by decide +kernel
theorem dX9_map_14 : decode cX9_map 14 = .ok (.ldc 184, 2) := by decide +kernel
theorem dX9_map_16 : decode cX9_map 16 = .ok (.invokespecial 53, 3) := by decide +kernel
theorem dX9_map_19 : decode cX9_map 19 = .ok (.athrow, 1) := by decide +kernel
theorem dX9_map_20 : decode cX9_map 20 = .ok (.iload_n 2, 1) := by decide +kernel
theorem dX9_map_21 : decode cX9_map 21 = .ok (.invokestatic 166, 3) := by decide +kernel
theorem dX9_map_24 : decode cX9_map 24 = .ok (.aload_n 0, 1) := by decide +kernel
theorem dX9_map_25 : decode cX9_map 25 = .ok (.iload_n 3, 1) := by decide +kernel
theorem dX9_map_26 : decode cX9_map 26 = .ok (.iload 4, 2) := by decide +kernel
theorem dX9_map_28 : decode cX9_map 28 = .ok (.invokevirtual 68, 3) := by decide +kernel
theorem dX9_map_31 : decode cX9_map 31 = .ok (.astore 5, 2) := by decide +kernel
theorem dX9_map_33 : decode cX9_map 33 = .ok (.iload 4, 2) := by decide +kernel
theorem dX9_map_35 : decode cX9_map 35 = .ok (.iload_n 2, 1) := by decide +kernel
theorem dX9_map_36 : decode cX9_map 36 = .ok (.iadd, 1) := by decide +kernel
theorem dX9_map_37 : decode cX9_map 37 = .ok (.iconst 1, 1) := by decide +kernel
theorem dX9_map_38 : decode cX9_map 38 = .ok (.isub, 1) := by decide +kernel
theorem dX9_map_39 : decode cX9_map 39 = .ok (.invokestatic 186, 3) := by decide +kernel
theorem dX9_map_42 : decode cX9_map 42 = .ok (.iconst 0, 1) := by decide +kernel
theorem dX9_map_43 : decode cX9_map 43 = .ok (.istore 6, 2) := by decide +kernel
theorem dX9_map_45 : decode cX9_map 45 = .ok (.iload 6, 2) := by decide +kernel
theorem dX9_map_47 : decode cX9_map 47 = .ok (.iload_n 2, 1) := by decide +kernel
theorem dX9_map_48 : decode cX9_map 48 = .ok (.if_icmp .ge 53, 3) := by decide +kernel
theorem dX9_map_51 : decode cX9_map 51 = .ok (.aload 5, 2) := by decide +kernel
theorem dX9_map_53 : decode cX9_map 53 = .ok (.iload 4, 2) := by decide +kernel
theorem dX9_map_55 : decode cX9_map 55 = .ok (.iload 6, 2) := by decide +kernel
theorem dX9_map_57 : decode cX9_map 57 = .ok (.iadd, 1) := by decide +kernel
theorem dX9_map_58 : decode cX9_map 58 = .ok (.aload_n 0, 1) := by decide +kernel
theorem dX9_map_59 : decode cX9_map 59 = .ok (.getfield 42, 3) := by decide +kernel
theorem dX9_map_62 : decode cX9_map 62 = .ok (.invokevirtual 189, 3) := by decide +kernel
theorem dX9_map_65 : decode cX9_map 65 = .ok (.istore 7, 2) := by decide +kernel
theorem dX9_map_67 : decode cX9_map 67 = .ok (.iload 7, 2) := by decide +kernel
theorem dX9_map_69 : decode cX9_map 69 = .ok (.iconst 1, 1) := by decide +kernel
theorem dX9_map_70 : decode cX9_map 70 = .ok (.if_icmp .lt 23, 3) := by decide +kernel
theorem dX9_map_73 : decode cX9_map 73 = .ok (.iload 7, 2) := by decide +kernel
theorem dX9_map_75 : decode cX9_map 75 = .ok (.bipush 20, 2) := by decide +kernel
theorem dX9_map_77 : decode cX9_map 77 = .ok (.if_icmp .gt 16, 3) := by decide +kernel
theorem dX9_map_80 : decode cX9_map 80 = .ok (.aload_n 0, 1) := by decide +kernel
theorem dX9_map_81 : decode cX9_map 81 = .ok (.getfield 42, 3) := by decide +kernel
theorem dX9_map_84 : decode cX9_map 84 = .ok (.iload 7, 2) := by decide +kernel
theorem dX9_map_86 : decode cX9_map 86 = .ok (.iload_n 2, 1) := by decide +kernel
theorem dX9_map_87 : decode cX9_map 87 = .ok (.invokestatic 169, 3) := by decide +kernel
theorem dX9_map_90 : decode cX9_map 90 = .ok (.ifCond .ne 5, 3) := by decide +kernel
theorem dX9_map_93 : decode cX9_map 93 = .ok (.iconst 0, 1) := by decide +kernel
theorem dX9_map_94 : decode cX9_map 94 = .ok (.ireturn, 1) := by decide +kernel
theorem dX9_map_95 : decode cX9_map 95 = .ok (.iinc 6 1, 3) := by decide +kernel
theorem dX9_map_98 : decode cX9_map 98 = .ok (.goto (-53), 3) := by decide +kernel
theorem dX9_map_101 : decode cX9_map 101 = .ok (.aload_n 0, 1) := by decide +kernel
theorem dX9_map_102 : decode cX9_map 102 = .ok (.getfield 23, 3) := by decide +kernel
theorem dX9_map_105 : decode cX9_map 105 = .ok (.iload_n 1, 1) := by decide +kernel
theorem dX9_map_106 : decode cX9_map 106 = .ok (.aaload, 1) := by decide +kernel
theorem dX9_map_107 : decode cX9_map 107 = .ok (.ifnonnull 16, 3) := by decide +kernel
theorem dX9_map_110 : decode cX9_map 110 = .ok (.aload_n 0, 1) := by decide +kernel
theorem dX9_map_111 : decode cX9_map 111 = .ok (.getfield 23, 3) := by decide +kernel
theorem dX9_map_114 : decode cX9_map 114 = .ok (.iload_n 1, 1) := by decide +kernel
theorem dX9_map_115 : decode cX9_map 115 = .ok (.new 21, 3) := by decide +kernel
theorem dX9_map_118 : decode cX9_map 118 = .ok (.dup, 1) := by decide +kernel
theorem dX9_map_119 : decode cX9_map 119 = .ok (.invokespecial 193, 3) := by decide +kernel
theorem dX9_map_122 : decode cX9_map 122 = .ok (.aastore, 1) := by decide +kernel
theorem dX9_map_123 : decode cX9_map 123 = .ok (.aload_n 0, 1) := by decide +kernel
theorem dX9_map_124 : decode cX9_map 124 = .ok (.aload_n 0, 1) := by decide +kernel
theorem dX9_map_125 : decode cX9_map 125 = .ok (.getfield 23, 3) := by decide +kernel
theorem dX9_map_128 : decode cX9_map 128 = .ok (.iload_n 1, 1) := by decide +kernel
theorem dX9_map_129 : decode cX9_map 129 = .ok (.aaload, 1) := by decide +kernel
theorem dX9_map_130 : decode cX9_map 130 = .ok (.iload_n 2, 1) := by decide +kernel
theorem dX9_map_131 : decode cX9_map 131 = .ok (.aload 5, 2) := by decide +kernel
theorem dX9_map_133 : decode cX9_map 133 = .ok (.iload 4, 2) := by decide +kernel
theorem dX9_map_135 : decode cX9_map 135 = .ok (.invokevirtual 194, 3) := by decide +kernel
theorem dX9_map_138 : decode cX9_map 138 = .ok (.iconst 1, 1) := by decide +kernel
theorem dX9_map_139 : decode cX9_map 139 = .ok (.ireturn, 1) := by decide +kernel
theorem dX9_image_0 : decode cX9_image 0 = .ok (.aload_n 0, 1) := by decide +kernel
theorem dX9_image_1 : decode cX9_image 1 = .ok (.iload_n 1, 1) := by decide +kernel
theorem dX9_image_2 : decode cX9_image 2 = .ok (.invokevirtual 198, 3) := by decide +kernel
theorem dX9_image_5 : decode cX9_image 5 = .ok (.astore 5, 2) := by decide +kernel
theorem dX9_image_7 : decode cX9_image 7 = .ok (.aload_n 0, 1) := by decide +kernel
theorem dX9_image_8 : decode cX9_image 8 = .ok (.iload_n 2, 1) := by decide +kernel
theorem dX9_image_9 : decode cX9_image 9 = .ok (.iload_n 3, 1) := by decide +kernel
theorem dX9_image_10 : decode cX9_image 10 = .ok (.invokevirtual 87, 3) := by decide +kernel
theorem dX9_image_13 : decode cX9_image 13 = .ok (.istore 6, 2) := by decide +kernel
theorem dX9_image_15 : decode cX9_image 15 = .ok (.aload_n 0, 1) := by decide +kernel
theorem dX9_image_16 : decode cX9_image 16 = .ok (.iload 4, 2) := by decide +kernel
theorem dX9_image_18 : decode cX9_image 18 = .ok (.invokevirtual 150, 3) := by decide +kernel
theorem dX9_image_21 : decode cX9_image 21 = .ok (.astore 7, 2) := by decide +kernel
theorem dX9_image_23 : decode cX9_image 23 = .ok (.iload 6, 2) := by decide +kernel
theorem dX9_image_25 : decode cX9_image 25 = .ok (.ifCond .lt 20, 3) := by decide +kernel
theorem dX9_image_28 : decode cX9_image 28 = .ok (.aload_n 0, 1) := by decide +kernel
theorem dX9_image_29 : decode cX9_image 29 = .ok (.getfield 42, 3) := by decide +kernel
theorem dX9_image_32 : decode cX9_image 32 = .ok (.iload 6, 2) := by decide +kernel
theorem dX9_image_34 : decode cX9_image 34 = .ok (.aload 5, 2) := by decide +kernel
theorem dX9_image_36 : decode cX9_image 36 = .ok (.getfield 202, 3) := by decide +kernel
theorem dX9_image_39 : decode cX9_image 39 = .ok (.invokestatic 169, 3) := by decide +kernel
theorem dX9_image_42 : decode cX9_image 42 = .ok (.ifCond .ne 5, 3) := by decide +kernel
theorem dX9_image_45 : decode cX9_image 45 = .ok (.iconst (-1), 1) := by decide +kernel
theorem dX9_image_46 : decode cX9_image 46 = .ok (.ireturn, 1) := by decide +kernel
theorem dX9_image_47 : decode cX9_image 47 = .ok (.aload 5, 2) := by decide +kernel
theorem dX9_image_49 : decode cX9_image 49 = .ok (.aload_n 0, 1) := by decide +kernel
theorem dX9_image_50 : decode cX9_image 50 = .ok (.getfield 42, 3) := by decide +kernel
theorem dX9_image_53 : decode cX9_image 53 = .ok (.iload 6, 2) := by decide +kernel
theorem dX9_image_55 : decode cX9_image 55 = .ok (.aload_n 0, 1) := by decide +kernel
theorem dX9_image_56 : decode cX9_image 56 = .ok (.getfield 46, 3) := by decide +kernel
theorem dX9_image_59 : decode cX9_image 59 = .ok (.invokevirtual 205, 3) := by decide +kernel
theorem dX9_image_62 : decode cX9_image 62 = .ok (.istore 8, 2) := by decide +kernel
theorem dX9_image_64 : decode cX9_image 64 = .ok (.iload 8, 2) := by decide +kernel
theorem dX9_image_66 : decode cX9_image 66 = .ok (.iconst (-1), 1) := by decide +kernel
theorem dX9_image_67 : decode cX9_image 67 = .ok (.if_icmp .eq 10, 3) := by decide +kernel
theorem dX9_image_70 : decode cX9_image 70 = .ok (.iload 8, 2) := by decide +kernel
theorem dX9_image_72 : decode cX9_image 72 = .ok (.bipush 60, 2) := by decide +kernel
theorem dX9_image_74 : decode cX9_image 74 = .ok (.if_icmp .le 6, 3) := by decide +kernel
theorem dX9_image_77 : decode cX9_image 77 = .ok (.bipush (-2), 2) := by decide +kernel
theorem dX9_image_79 : decode cX9_image 79 = .ok (.ireturn, 1) := by decide +kernel
theorem dX9_image_80 : decode cX9_image 80 = .ok (.aload 7, 2) := by decide +kernel
theorem dX9_image_82 : decode cX9_image 82 = .ok (.iconst 0, 1) := by decide +kernel
theorem dX9_image_83 : decode cX9_image 83 = .ok (.aload_n 0, 1) := by decide +kernel
theorem dX9_image_84 : decode cX9_image 84 = .ok (.getfield 46, 3) := by decide +kernel
theorem dX9_image_87 : decode cX9_image 87 = .ok (.iload 8, 2) := by decide +kernel
theorem dX9_image_89 : decode cX9_image 89 = .ok (.invokevirtual 162, 3) := by decide +kernel
theorem dX9_image_92 : decode cX9_image 92 = .ok (.iload 8, 2) := by decide +kernel
theorem dX9_image_94 : decode cX9_image 94 = .ok (.ireturn, 1) := by decide +kernel
theorem dX9_keeps_0 : decode cX9_keeps 0 = .ok (.aload_n 0, 1) := by decide +kernel
theorem dX9_keeps_1 : decode cX9_keeps 1 = .ok (.iload_n 1, 1) := by decide +kernel
theorem dX9_keeps_2 : decode cX9_keeps 2 = .ok (.invokevirtual 198, 3) := by decide +kernel
theorem dX9_keeps_5 : decode cX9_keeps 5 = .ok (.astore_n 3, 1) := by decide +kernel
theorem dX9_keeps_6 : decode cX9_keeps 6 = .ok (.aload_n 0, 1) := by decide +kernel
theorem dX9_keeps_7 : decode cX9_keeps 7 = .ok (.iload_n 2, 1) := by decide +kernel
theorem dX9_keeps_8 : decode cX9_keeps 8 = .ok (.invokevirtual 150, 3) := by decide +kernel
theorem dX9_keeps_11 : decode cX9_keeps 11 = .ok (.astore 4, 2) := by decide +kernel
theorem dX9_keeps_13 : decode cX9_keeps 13 = .ok (.aload_n 0, 1) := by decide +kernel
theorem dX9_keeps_14 : decode cX9_keeps 14 = .ok (.getfield 38, 3) := by decide +kernel
theorem dX9_keeps_17 : decode cX9_keeps 17 = .ok (.invokevirtual 137, 3) := by decide +kernel
theorem dX9_keeps_20 : decode cX9_keeps 20 = .ok (.aload_n 3, 1) := by decide +kernel
theorem dX9_keeps_21 : decode cX9_keeps 21 = .ok (.invokevirtual 209, 3) := by decide +kernel
theorem dX9_keeps_24 : decode cX9_keeps 24 = .ok (.istore 5, 2) := by decide +kernel
theorem dX9_keeps_26 : decode cX9_keeps 26 = .ok (.iconst 1, 1) := by decide +kernel
theorem dX9_keeps_27 : decode cX9_keeps 27 = .ok (.istore 6, 2) := by decide +kernel
theorem dX9_keeps_29 : decode cX9_keeps 29 = .ok (.iload 6, 2) := by decide +kernel
theorem dX9_keeps_31 : decode cX9_keeps 31 = .ok (.iload 5, 2) := by decide +kernel
theorem dX9_keeps_33 : decode cX9_keeps 33 = .ok (.if_icmp .gt 51, 3) := by decide +kernel
theorem dX9_keeps_36 : decode cX9_keeps 36 = .ok (.aload_n 0, 1) := by decide +kernel
theorem dX9_keeps_37 : decode cX9_keeps 37 = .ok (.aload_n 3, 1) := by decide +kernel
theorem dX9_keeps_38 : decode cX9_keeps 38 = .ok (.iload 6, 2) := by decide +kernel
theorem dX9_keeps_40 : decode cX9_keeps 40 = .ok (.invokevirtual 212, 3) := by decide +kernel
theorem dX9_keeps_43 : decode cX9_keeps 43 = .ok (.istore 7, 2) := by decide +kernel
theorem dX9_keeps_45 : decode cX9_keeps 45 = .ok (.iload 7, 2) := by decide +kernel
theorem dX9_keeps_47 : decode cX9_keeps 47 = .ok (.bipush (-2), 2) := by decide +kernel
theorem dX9_keeps_49 : decode cX9_keeps 49 = .ok (.if_icmp .ne 6, 3) := by decide +kernel
theorem dX9_keeps_52 : decode cX9_keeps 52 = .ok (.bipush (-2), 2) := by decide +kernel
theorem dX9_keeps_54 : decode cX9_keeps 54 = .ok (.ireturn, 1) := by decide +kernel
theorem dX9_keeps_55 : decode cX9_keeps 55 = .ok (.iload 7, 2) := by decide +kernel
theorem dX9_keeps_57 : decode cX9_keeps 57 = .ok (.iconst 1, 1) := by decide +kernel
theorem dX9_keeps_58 : decode cX9_keeps 58 = .ok (.if_icmp .ne 20, 3) := by decide +kernel
theorem dX9_keeps_61 : decode cX9_keeps 61 = .ok (.aload 4, 2) := by decide +kernel
theorem dX9_keeps_63 : decode cX9_keeps 63 = .ok (.iconst 0, 1) := by decide +kernel
theorem dX9_keeps_64 : decode cX9_keeps 64 = .ok (.aload_n 0, 1) := by decide +kernel
theorem dX9_keeps_65 : decode cX9_keeps 65 = .ok (.getfield 38, 3) := by decide +kernel
theorem dX9_keeps_68 : decode cX9_keeps 68 = .ok (.getfield 159, 3) := by decide +kernel
theorem dX9_keeps_71 : decode cX9_keeps 71 = .ok (.iload 6, 2) := by decide +kernel
theorem dX9_keeps_73 : decode cX9_keeps 73 = .ok (.invokevirtual 162, 3) := by decide +kernel
theorem dX9_keeps_76 : decode cX9_keeps 76 = .ok (.iconst 0, 1) := by decide +kernel
theorem dX9_keeps_77 : decode cX9_keeps 77 = .ok (.ireturn, 1) := by decide +kernel
theorem dX9_keeps_78 : decode cX9_keeps 78 = .ok (.iinc 6 1, 3) := by decide +kernel
theorem dX9_keeps_81 : decode cX9_keeps 81 = .ok (.goto (-52), 3) := by decide +kernel
theorem dX9_keeps_84 : decode cX9_keeps 84 = .ok (.iconst 1, 1) := by decide +kernel
theorem dX9_keeps_85 : decode cX9_keeps 85 = .ok (.ireturn, 1) := by decide +kernel
theorem dX9_at_0 : decode cX9_at 0 = .ok (.aload_n 0, 1) := by decide +kernel
theorem dX9_at_1 : decode cX9_at 1 = .ok (.iload_n 1, 1) := by decide +kernel
theorem dX9_at_2 : decode cX9_at 2 = .ok (.invokevirtual 198, 3) := by decide +kernel
theorem dX9_at_5 : decode cX9_at 5 = .ok (.astore 4, 2) := by decide +kernel
theorem dX9_at_7 : decode cX9_at 7 = .ok (.iload_n 3, 1) := by decide +kernel
theorem dX9_at_8 : decode cX9_at 8 = .ok (.ifCond .lt 12, 3) := by decide +kernel
theorem dX9_at_11 : decode cX9_at 11 = .ok (.aload 4, 2) := by decide +kernel
theorem dX9_at_13 : decode cX9_at 13 = .ok (.iload_n 2, 1) := by decide +kernel
theorem dX9_at_14 : decode cX9_at 14 = .ok (.invokevirtual 216, 3) := by decide +kernel
theorem dX9_at_17 : decode cX9_at 17 = .ok (.ifCond .ne 7, 3) := by decide +kernel
theorem dX9_at_20 : decode cX9_at 20 = .ok (.iconst (-1), 1) := by decide +kernel
theorem dX9_at_21 : decode cX9_at 21 = .ok (.goto 10, 3) := by decide +kernel
theorem dX9_at_24 : decode cX9_at 24 = .ok (.aload 4, 2) := by decide +kernel
theorem dX9_at_26 : decode cX9_at 26 = .ok (.iload_n 2, 1) := by decide +kernel
theorem dX9_at_27 : decode cX9_at 27 = .ok (.iload_n 3, 1) := by decide +kernel
theorem dX9_at_28 : decode cX9_at 28 = .ok (.invokevirtual 220, 3) := by decide +kernel
theorem dX9_at_31 : decode cX9_at 31 = .ok (.ireturn, 1) := by decide +kernel
theorem dX9_shape_0 : decode cX9_shape 0 = .ok (.iload_n 1, 1) := by decide +kernel
theorem dX9_shape_1 : decode cX9_shape 1 = .ok (.ifCond .lt 20, 3) := by decide +kernel
theorem dX9_shape_4 : decode cX9_shape 4 = .ok (.iload_n 1, 1) := by decide +kernel
theorem dX9_shape_5 : decode cX9_shape 5 = .ok (.aload_n 0, 1) := by decide +kernel
theorem dX9_shape_6 : decode cX9_shape 6 = .ok (.getfield 100, 3) := by decide +kernel
theorem dX9_shape_9 : decode cX9_shape 9 = .ok (.if_icmp .ge 12, 3) := by decide +kernel
theorem dX9_shape_12 : decode cX9_shape 12 = .ok (.iload_n 1, 1) := by decide +kernel
theorem dX9_shape_13 : decode cX9_shape 13 = .ok (.aload_n 0, 1) := by decide +kernel
theorem dX9_shape_14 : decode cX9_shape 14 = .ok (.getfield 17, 3) := by decide +kernel
theorem dX9_shape_17 : decode cX9_shape 17 = .ok (.arraylength, 1) := by decide +kernel
theorem dX9_shape_18 : decode cX9_shape 18 = .ok (.if_icmp .lt 13, 3) := by decide +kernel
theorem dX9_shape_21 : decode cX9_shape 21 = .ok (.new 223, 3) := by decide +kernel
theorem dX9_shape_24 : decode cX9_shape 24 = .ok (.dup, 1) := by decide +kernel
theorem dX9_shape_25 : decode cX9_shape 25 = .ok (.ldc 225, 2) := by decide +kernel
theorem dX9_shape_27 : decode cX9_shape 27 = .ok (.invokespecial 227, 3) := by decide +kernel
theorem dX9_shape_30 : decode cX9_shape 30 = .ok (.athrow, 1) := by decide +kernel
theorem dX9_shape_31 : decode cX9_shape 31 = .ok (.iload_n 2, 1) := by decide +kernel
theorem dX9_shape_32 : decode cX9_shape 32 = .ok (.ifCond .ge 13, 3) := by decide +kernel
theorem dX9_shape_35 : decode cX9_shape 35 = .ok (.new 49, 3) := by decide +kernel
theorem dX9_shape_38 : decode cX9_shape 38 = .ok (.dup, 1) := by decide +kernel
theorem dX9_shape_39 : decode cX9_shape 39 = .ok (.ldc 228, 2) := by decide +kernel
theorem dX9_shape_41 : decode cX9_shape 41 = .ok (.invokespecial 53, 3) := by decide +kernel
theorem dX9_shape_44 : decode cX9_shape 44 = .ok (.athrow, 1) := by decide +kernel
theorem dX9_shape_45 : decode cX9_shape 45 = .ok (.aload_n 0, 1) := by decide +kernel
theorem dX9_shape_46 : decode cX9_shape 46 = .ok (.getfield 17, 3) := by decide +kernel
theorem dX9_shape_49 : decode cX9_shape 49 = .ok (.iload_n 1, 1) := by decide +kernel
theorem dX9_shape_50 : decode cX9_shape 50 = .ok (.aaload, 1) := by decide +kernel
theorem dX9_shape_51 : decode cX9_shape 51 = .ok (.instanceof 230, 3) := by decide +kernel
theorem dX9_shape_54 : decode cX9_shape 54 = .ok (.ifCond .eq 19, 3) := by decide +kernel
theorem dX9_shape_57 : decode cX9_shape 57 = .ok (.aload_n 0, 1) := by decide +kernel
theorem dX9_shape_58 : decode cX9_shape 58 = .ok (.getfield 17, 3) := by decide +kernel
theorem dX9_shape_61 : decode cX9_shape 61 = .ok (.iload_n 1, 1) := by decide +kernel
theorem dX9_shape_62 : decode cX9_shape 62 = .ok (.aaload, 1) := by decide +kernel
theorem dX9_shape_63 : decode cX9_shape 63 = .ok (.checkcast 230, 3) := by decide +kernel
theorem dX9_shape_66 : decode cX9_shape 66 = .ok (.iload_n 2, 1) := by decide +kernel
theorem dX9_shape_67 : decode cX9_shape 67 = .ok (.invokestatic 232, 3) := by decide +kernel
theorem dX9_shape_70 : decode cX9_shape 70 = .ok (.goto 4, 3) := by decide +kernel
theorem dX9_shape_73 : decode cX9_shape 73 = .ok (.iconst (-1), 1) := by decide +kernel
theorem dX9_shape_74 : decode cX9_shape 74 = .ok (.ireturn, 1) := by decide +kernel
theorem dX9_tellShape_0 : decode cX9_tellShape 0 = .ok (.iload_n 1, 1) := by decide +kernel
theorem dX9_tellShape_1 : decode cX9_tellShape 1 = .ok (.iconst 1, 1) := by decide +kernel
theorem dX9_tellShape_2 : decode cX9_tellShape 2 = .ok (.if_icmp .ne 16, 3) := by decide +kernel
theorem dX9_tellShape_5 : decode cX9_tellShape 5 = .ok (.aload_n 0, 1) := by decide +kernel
theorem dX9_tellShape_6 : decode cX9_tellShape 6 = .ok (.invokevirtual 236, 3) := by decide +kernel
theorem dX9_tellShape_9 : decode cX9_tellShape 9 = .ok (.ifCond .eq 7, 3) := by decide +kernel
theorem dX9_tellShape_12 : decode cX9_tellShape 12 = .ok (.iconst 1, 1) := by decide +kernel
theorem dX9_tellShape_13 : decode cX9_tellShape 13 = .ok (.goto 4, 3) := by decide +kernel
theorem dX9_tellShape_16 : decode cX9_tellShape 16 = .ok (.iconst 0, 1) := by decide +kernel
theorem dX9_tellShape_17 : decode cX9_tellShape 17 = .ok (.ireturn, 1) := by decide +kernel
theorem dX9_tellShape_18 : decode cX9_tellShape 18 = .ok (.aload_n 0, 1) := by decide +kernel
theorem dX9_tellShape_19 : decode cX9_tellShape 19 = .ok (.invokevirtual 240, 3) := by decide +kernel
theorem dX9_tellShape_22 : decode cX9_tellShape 22 = .ok (.istore_n 2, 1) := by decide +kernel
theorem dX9_tellShape_23 : decode cX9_tellShape 23 = .ok (.iload_n 1, 1) := by decide +kernel
theorem dX9_tellShape_24 : decode cX9_tellShape 24 = .ok (.ifCond .ne 13, 3) := by decide +kernel
theorem dX9_tellShape_27 : decode cX9_tellShape 27 = .ok (.iload_n 2, 1) := by decide +kernel
theorem dX9_tellShape_28 : decode cX9_tellShape 28 = .ok (.ifCond .le 7, 3) := by decide +kernel
theorem dX9_tellShape_31 : decode cX9_tellShape 31 = .ok (.iconst 1, 1) := by decide +kernel
theorem dX9_tellShape_32 : decode cX9_tellShape 32 = .ok (.goto 4, 3) := by decide +kernel
theorem dX9_tellShape_35 : decode cX9_tellShape 35 = .ok (.iconst 0, 1) := by decide +kernel
theorem dX9_tellShape_36 : decode cX9_tellShape 36 = .ok (.ireturn, 1) := by decide +kernel
theorem dX9_tellShape_37 : decode cX9_tellShape 37 = .ok (.iload_n 1, 1) := by decide +kernel
theorem dX9_tellShape_38 : decode cX9_tellShape 38 = .ok (.iconst 2, 1) := by decide +kernel
theorem dX9_tellShape_39 : decode cX9_tellShape 39 = .ok (.if_icmp .ne 5, 3) := by decide +kernel
theorem dX9_tellShape_42 : decode cX9_tellShape 42 = .ok (.iload_n 2, 1) := by decide +kernel
theorem dX9_tellShape_43 : decode cX9_tellShape 43 = .ok (.ireturn, 1) := by decide +kernel
theorem dX9_tellShape_44 : decode cX9_tellShape 44 = .ok (.iload_n 1, 1) := by decide +kernel
theorem dX9_tellShape_45 : decode cX9_tellShape 45 = .ok (.iconst 3, 1) := by decide +kernel
theorem dX9_tellShape_46 : decode cX9_tellShape 46 = .ok (.isub, 1) := by decide +kernel
theorem dX9_tellShape_47 : decode cX9_tellShape 47 = .ok (.iload_n 2, 1) := by decide +kernel
theorem dX9_tellShape_48 : decode cX9_tellShape 48 = .ok (.if_icmp .ge 13, 3) := by decide +kernel
theorem dX9_tellShape_51 : decode cX9_tellShape 51 = .ok (.aload_n 0, 1) := by decide +kernel
theorem dX9_tellShape_52 : decode cX9_tellShape 52 = .ok (.iload_n 1, 1) := by decide +kernel
theorem dX9_tellShape_53 : decode cX9_tellShape 53 = .ok (.iconst 3, 1) := by decide +kernel
theorem dX9_tellShape_54 : decode cX9_tellShape 54 = .ok (.isub, 1) := by decide +kernel
theorem dX9_tellShape_55 : decode cX9_tellShape 55 = .ok (.invokevirtual 243, 3) := by decide +kernel
theorem dX9_tellShape_58 : decode cX9_tellShape 58 = .ok (.goto 4, 3) := by decide +kernel
theorem dX9_tellShape_61 : decode cX9_tellShape 61 = .ok (.iconst 0, 1) := by decide +kernel
theorem dX9_tellShape_62 : decode cX9_tellShape 62 = .ok (.ireturn, 1) := by decide +kernel
theorem dX9_sheetOf_0 : decode cX9_sheetOf 0 = .ok (.iload_n 1, 1) := by decide +kernel
theorem dX9_sheetOf_1 : decode cX9_sheetOf 1 = .ok (.ifCond .lt 21, 3) := by decide +kernel
theorem dX9_sheetOf_4 : decode cX9_sheetOf 4 = .ok (.iload_n 1, 1) := by decide +kernel
theorem dX9_sheetOf_5 : decode cX9_sheetOf 5 = .ok (.aload_n 0, 1) := by decide +kernel
theorem dX9_sheetOf_6 : decode cX9_sheetOf 6 = .ok (.getfield 11, 3) := by decide +kernel
theorem dX9_sheetOf_9 : decode cX9_sheetOf 9 = .ok (.arraylength, 1) := by decide +kernel
theorem dX9_sheetOf_10 : decode cX9_sheetOf 10 = .ok (.if_icmp .ge 12, 3) := by decide +kernel
theorem dX9_sheetOf_13 : decode cX9_sheetOf 13 = .ok (.aload_n 0, 1) := by decide +kernel
theorem dX9_sheetOf_14 : decode cX9_sheetOf 14 = .ok (.getfield 11, 3) := by decide +kernel
theorem dX9_sheetOf_17 : decode cX9_sheetOf 17 = .ok (.iload_n 1, 1) := by decide +kernel
theorem dX9_sheetOf_18 : decode cX9_sheetOf 18 = .ok (.aaload, 1) := by decide +kernel
theorem dX9_sheetOf_19 : decode cX9_sheetOf 19 = .ok (.goto 4, 3) := by decide +kernel
theorem dX9_sheetOf_22 : decode cX9_sheetOf 22 = .ok (.aconst_null, 1) := by decide +kernel
theorem dX9_sheetOf_23 : decode cX9_sheetOf 23 = .ok (.astore_n 2, 1) := by decide +kernel
theorem dX9_sheetOf_24 : decode cX9_sheetOf 24 = .ok (.aload_n 2, 1) := by decide +kernel
theorem dX9_sheetOf_25 : decode cX9_sheetOf 25 = .ok (.ifnonnull 13, 3) := by decide +kernel
theorem dX9_sheetOf_28 : decode cX9_sheetOf 28 = .ok (.new 223, 3) := by decide +kernel
theorem dX9_sheetOf_31 : decode cX9_sheetOf 31 = .ok (.dup, 1) := by decide +kernel
theorem dX9_sheetOf_32 : decode cX9_sheetOf 32 = .ok (.ldc 246, 2) := by decide +kernel
theorem dX9_sheetOf_34 : decode cX9_sheetOf 34 = .ok (.invokespecial 227, 3) := by decide +kernel
theorem dX9_sheetOf_37 : decode cX9_sheetOf 37 = .ok (.athrow, 1) := by decide +kernel
theorem dX9_sheetOf_38 : decode cX9_sheetOf 38 = .ok (.aload_n 2, 1) := by decide +kernel
theorem dX9_sheetOf_39 : decode cX9_sheetOf 39 = .ok (.areturn, 1) := by decide +kernel
theorem dX9_needRow_0 : decode cX9_needRow 0 = .ok (.iload_n 0, 1) := by decide +kernel
theorem dX9_needRow_1 : decode cX9_needRow 1 = .ok (.ifCond .lt 9, 3) := by decide +kernel
theorem dX9_needRow_4 : decode cX9_needRow 4 = .ok (.iload_n 0, 1) := by decide +kernel
theorem dX9_needRow_5 : decode cX9_needRow 5 = .ok (.bipush 10, 2) := by decide +kernel
theorem dX9_needRow_7 : decode cX9_needRow 7 = .ok (.if_icmp .lt 13, 3) := by decide +kernel
theorem dX9_needRow_10 : decode cX9_needRow 10 = .ok (.new 223, 3) := by decide +kernel
theorem dX9_needRow_13 : decode cX9_needRow 13 = .ok (.dup, 1) := by decide +kernel
theorem dX9_needRow_14 : decode cX9_needRow 14 = .ok (.ldc 248, 2) := by decide +kernel
theorem dX9_needRow_16 : decode cX9_needRow 16 = .ok (.invokespecial 227, 3) := by decide +kernel
theorem dX9_needRow_19 : decode cX9_needRow 19 = .ok (.athrow, 1) := by decide +kernel
theorem dX9_needRow_20 : decode cX9_needRow 20 = .ok (.return_, 1) := by decide +kernel
theorem dX9_sheetWithRow_0 : decode cX9_sheetWithRow 0 = .ok (.aload_n 0, 1) := by decide +kernel
theorem dX9_sheetWithRow_1 : decode cX9_sheetWithRow 1 = .ok (.iload_n 1, 1) := by decide +kernel
theorem dX9_sheetWithRow_2 : decode cX9_sheetWithRow 2 = .ok (.invokevirtual 150, 3) := by decide +kernel
theorem dX9_sheetWithRow_5 : decode cX9_sheetWithRow 5 = .ok (.astore_n 3, 1) := by decide +kernel
theorem dX9_sheetWithRow_6 : decode cX9_sheetWithRow 6 = .ok (.iload_n 2, 1) := by decide +kernel
theorem dX9_sheetWithRow_7 : decode cX9_sheetWithRow 7 = .ok (.invokestatic 186, 3) := by decide +kernel
theorem dX9_sheetWithRow_10 : decode cX9_sheetWithRow 10 = .ok (.aload_n 3, 1) := by decide +kernel
theorem dX9_sheetWithRow_11 : decode cX9_sheetWithRow 11 = .ok (.areturn, 1) := by decide +kernel
theorem dX9_readWord_0 : decode cX9_readWord 0 = .ok (.aload_n 0, 1) := by decide +kernel
theorem dX9_readWord_1 : decode cX9_readWord 1 = .ok (.iload_n 1, 1) := by decide +kernel
theorem dX9_readWord_2 : decode cX9_readWord 2 = .ok (.iload_n 2, 1) := by decide +kernel
theorem dX9_readWord_3 : decode cX9_readWord 3 = .ok (.invokevirtual 68, 3) := by decide +kernel
theorem dX9_readWord_6 : decode cX9_readWord 6 = .ok (.iload_n 2, 1) := by decide +kernel
theorem dX9_readWord_7 : decode cX9_readWord 7 = .ok (.aload_n 0, 1) := by decide +kernel
theorem dX9_readWord_8 : decode cX9_readWord 8 = .ok (.getfield 42, 3) := by decide +kernel
theorem dX9_readWord_11 : decode cX9_readWord 11 = .ok (.invokevirtual 189, 3) := by decide +kernel
theorem dX9_readWord_14 : decode cX9_readWord 14 = .ok (.ireturn, 1) := by decide +kernel
theorem dX9_mapOf_0 : decode cX9_mapOf 0 = .ok (.iload_n 1, 1) := by decide +kernel
theorem dX9_mapOf_1 : decode cX9_mapOf 1 = .ok (.ifCond .lt 21, 3) := by decide +kernel
theorem dX9_mapOf_4 : decode cX9_mapOf 4 = .ok (.iload_n 1, 1) := by decide +kernel
theorem dX9_mapOf_5 : decode cX9_mapOf 5 = .ok (.aload_n 0, 1) := by decide +kernel
theorem dX9_mapOf_6 : decode cX9_mapOf 6 = .ok (.getfield 23, 3) := by decide +kernel
theorem dX9_mapOf_9 : decode cX9_mapOf 9 = .ok (.arraylength, 1) := by decide +kernel
theorem dX9_mapOf_10 : decode cX9_mapOf 10 = .ok (.if_icmp .ge 12, 3) := by decide +kernel
theorem dX9_mapOf_13 : decode cX9_mapOf 13 = .ok (.aload_n 0, 1) := by decide +kernel
theorem dX9_mapOf_14 : decode cX9_mapOf 14 = .ok (.getfield 23, 3) := by decide +kernel
theorem dX9_mapOf_17 : decode cX9_mapOf 17 = .ok (.iload_n 1, 1) := by decide +kernel
theorem dX9_mapOf_18 : decode cX9_mapOf 18 = .ok (.aaload, 1) := by decide +kernel
theorem dX9_mapOf_19 : decode cX9_mapOf 19 = .ok (.goto 4, 3) := by decide +kernel
theorem dX9_mapOf_22 : decode cX9_mapOf 22 = .ok (.aconst_null, 1) := by decide +kernel
theorem dX9_mapOf_23 : decode cX9_mapOf 23 = .ok (.astore_n 2, 1) := by decide +kernel
theorem dX9_mapOf_24 : decode cX9_mapOf 24 = .ok (.aload_n 2, 1) := by decide +kernel
theorem dX9_mapOf_25 : decode cX9_mapOf 25 = .ok (.ifnonnull 13, 3) := by decide +kernel
theorem dX9_mapOf_28 : decode cX9_mapOf 28 = .ok (.new 250, 3) := by decide +kernel
theorem dX9_mapOf_31 : decode cX9_mapOf 31 = .ok (.dup, 1) := by decide +kernel
theorem dX9_mapOf_32 : decode cX9_mapOf 32 = .ok (.ldc 252, 2) := by decide +kernel
theorem dX9_mapOf_34 : decode cX9_mapOf 34 = .ok (.invokespecial 254, 3) := by decide +kernel
theorem dX9_mapOf_37 : decode cX9_mapOf 37 = .ok (.athrow, 1) := by decide +kernel
theorem dX9_mapOf_38 : decode cX9_mapOf 38 = .ok (.aload_n 2, 1) := by decide +kernel
theorem dX9_mapOf_39 : decode cX9_mapOf 39 = .ok (.areturn, 1) := by decide +kernel
theorem dX9_needWhat_0 : decode cX9_needWhat 0 = .ok (.iload_n 0, 1) := by decide +kernel
theorem dX9_needWhat_1 : decode cX9_needWhat 1 = .ok (.ifCond .lt 8, 3) := by decide +kernel
theorem dX9_needWhat_4 : decode cX9_needWhat 4 = .ok (.iload_n 0, 1) := by decide +kernel
theorem dX9_needWhat_5 : decode cX9_needWhat 5 = .ok (.iload_n 1, 1) := by decide +kernel
theorem dX9_needWhat_6 : decode cX9_needWhat 6 = .ok (.if_icmp .le 13, 3) := by decide +kernel
theorem dX9_needWhat_9 : decode cX9_needWhat 9 = .ok (.new 49, 3) := by decide +kernel
theorem dX9_needWhat_12 : decode cX9_needWhat 12 = .ok (.dup, 1) := by decide +kernel
theorem dX9_needWhat_13 : decode cX9_needWhat 13 = .ok (.ldc 228, 2) := by decide +kernel
theorem dX9_needWhat_15 : decode cX9_needWhat 15 = .ok (.invokespecial 53, 3) := by decide +kernel
theorem dX9_needWhat_18 : decode cX9_needWhat 18 = .ok (.athrow, 1) := by decide +kernel
theorem dX9_needWhat_19 : decode cX9_needWhat 19 = .ok (.return_, 1) := by decide +kernel
theorem dX9_needSet_0 : decode cX9_needSet 0 = .ok (.iload_n 1, 1) := by decide +kernel
theorem dX9_needSet_1 : decode cX9_needSet 1 = .ok (.aload_n 0, 1) := by decide +kernel
theorem dX9_needSet_2 : decode cX9_needSet 2 = .ok (.getfield 100, 3) := by decide +kernel
theorem dX9_needSet_5 : decode cX9_needSet 5 = .ok (.iushr, 1) := by decide +kernel
theorem dX9_needSet_6 : decode cX9_needSet 6 = .ok (.ifCond .eq 13, 3) := by decide +kernel
theorem dX9_needSet_9 : decode cX9_needSet 9 = .ok (.new 49, 3) := by decide +kernel
theorem dX9_needSet_12 : decode cX9_needSet 12 = .ok (.dup, 1) := by decide +kernel
theorem dX9_needSet_13 : decode cX9_needSet 13 = .ok (.ldc 255, 2) := by decide +kernel
theorem dX9_needSet_15 : decode cX9_needSet 15 = .ok (.invokespecial 53, 3) := by decide +kernel
theorem dX9_needSet_18 : decode cX9_needSet 18 = .ok (.athrow, 1) := by decide +kernel
theorem dX9_needSet_19 : decode cX9_needSet 19 = .ok (.return_, 1) := by decide +kernel
theorem dX9_needAlphabet_0 : decode cX9_needAlphabet 0 = .ok (.iload_n 0, 1) := by decide +kernel
theorem dX9_needAlphabet_1 : decode cX9_needAlphabet 1 = .ok (.iconst 1, 1) := by decide +kernel
theorem dX9_needAlphabet_2 : decode cX9_needAlphabet 2 = .ok (.if_icmp .lt 9, 3) := by decide +kernel
theorem dX9_needAlphabet_5 : decode cX9_needAlphabet 5 = .ok (.iload_n 0, 1) := by decide +kernel
theorem dX9_needAlphabet_6 : decode cX9_needAlphabet 6 = .ok (.bipush 8, 2) := by decide +kernel
theorem dX9_needAlphabet_8 : decode cX9_needAlphabet 8 = .ok (.if_icmp .le 14, 3) := by decide +kernel
theorem dX9_needAlphabet_11 : decode cX9_needAlphabet 11 = .ok (.new 49, 3) := by decide +kernel
theorem dX9_needAlphabet_14 : decode cX9_needAlphabet 14 = .ok (.dup, 1) := by decide +kernel
theorem dX9_needAlphabet_15 : decode cX9_needAlphabet 15 = .ok (.ldc_w 257, 3) := by decide +kernel
theorem dX9_needAlphabet_18 : decode cX9_needAlphabet 18 = .ok (.invokespecial 53, 3) := by decide +kernel
theorem dX9_needAlphabet_21 : decode cX9_needAlphabet 21 = .ok (.athrow, 1) := by decide +kernel
theorem dX9_needAlphabet_22 : decode cX9_needAlphabet 22 = .ok (.return_, 1) := by decide +kernel
theorem dX9_needSearch_0 : decode cX9_needSearch 0 = .ok (.aload_n 0, 1) := by decide +kernel
theorem dX9_needSearch_1 : decode cX9_needSearch 1 = .ok (.iload_n 1, 1) := by decide +kernel
theorem dX9_needSearch_2 : decode cX9_needSearch 2 = .ok (.invokevirtual 120, 3) := by decide +kernel
theorem dX9_needSearch_5 : decode cX9_needSearch 5 = .ok (.iload_n 2, 1) := by decide +kernel
theorem dX9_needSearch_6 : decode cX9_needSearch 6 = .ok (.invokestatic 166, 3) := by decide +kernel
theorem dX9_needSearch_9 : decode cX9_needSearch 9 = .ok (.iload_n 3, 1) := by decide +kernel
theorem dX9_needSearch_10 : decode cX9_needSearch 10 = .ok (.ifCond .lt 9, 3) := by decide +kernel
theorem dX9_needSearch_13 : decode cX9_needSearch 13 = .ok (.iload_n 3, 1) := by decide +kernel
theorem dX9_needSearch_14 : decode cX9_needSearch 14 = .ok (.bipush 60, 2) := by decide +kernel
theorem dX9_needSearch_16 : decode cX9_needSearch 16 = .ok (.if_icmp .le 14, 3) := by decide +kernel
theorem dX9_needSearch_19 : decode cX9_needSearch 19 = .ok (.new 49, 3) := by decide +kernel
theorem dX9_needSearch_22 : decode cX9_needSearch 22 = .ok (.dup, 1) := by decide +kernel
theorem dX9_needSearch_23 : decode cX9_needSearch 23 = .ok (.ldc_w 259, 3) := by decide +kernel
theorem dX9_needSearch_26 : decode cX9_needSearch 26 = .ok (.invokespecial 53, 3) := by decide +kernel
theorem dX9_needSearch_29 : decode cX9_needSearch 29 = .ok (.athrow, 1) := by decide +kernel
theorem dX9_needSearch_30 : decode cX9_needSearch 30 = .ok (.return_, 1) := by decide +kernel
theorem dX9_lawOfRow_0 : decode cX9_lawOfRow 0 = .ok (.aload_n 0, 1) := by decide +kernel
theorem dX9_lawOfRow_1 : decode cX9_lawOfRow 1 = .ok (.iload_n 2, 1) := by decide +kernel
theorem dX9_lawOfRow_2 : decode cX9_lawOfRow 2 = .ok (.iload_n 3, 1) := by decide +kernel
theorem dX9_lawOfRow_3 : decode cX9_lawOfRow 3 = .ok (.invokevirtual 87, 3) := by decide +kernel
theorem dX9_lawOfRow_6 : decode cX9_lawOfRow 6 = .ok (.istore 4, 2) := by decide +kernel
theorem dX9_lawOfRow_8 : decode cX9_lawOfRow 8 = .ok (.iload 4, 2) := by decide +kernel
theorem dX9_lawOfRow_10 : decode cX9_lawOfRow 10 = .ok (.iconst 1, 1) := by decide +kernel
theorem dX9_lawOfRow_11 : decode cX9_lawOfRow 11 = .ok (.if_icmp .ge 5, 3) := by decide +kernel
theorem dX9_lawOfRow_14 : decode cX9_lawOfRow 14 = .ok (.aconst_null, 1) := by decide +kernel
theorem dX9_lawOfRow_15 : decode cX9_lawOfRow 15 = .ok (.areturn, 1) := by decide +kernel
theorem dX9_lawOfRow_16 : decode cX9_lawOfRow 16 = .ok (.iload_n 1, 1) := by decide +kernel
theorem dX9_lawOfRow_17 : decode cX9_lawOfRow 17 = .ok (.ifCond .ne 20, 3) := by decide +kernel
theorem dX9_lawOfRow_20 : decode cX9_lawOfRow 20 = .ok (.new 261, 3) := by decide +kernel
theorem dX9_lawOfRow_23 : decode cX9_lawOfRow 23 = .ok (.dup, 1) := by decide +kernel
theorem dX9_lawOfRow_24 : decode cX9_lawOfRow 24 = .ok (.aload_n 0, 1) := by decide +kernel
theorem dX9_lawOfRow_25 : decode cX9_lawOfRow 25 = .ok (.getfield 42, 3) := by decide +kernel
theorem dX9_lawOfRow_28 : decode cX9_lawOfRow 28 = .ok (.iload 4, 2) := by decide +kernel
theorem dX9_lawOfRow_30 : decode cX9_lawOfRow 30 = .ok (.invokestatic 263, 3) := by decide +kernel
theorem dX9_lawOfRow_33 : decode cX9_lawOfRow 33 = .ok (.invokespecial 269, 3) := by decide +kernel
theorem dX9_lawOfRow_36 : decode cX9_lawOfRow 36 = .ok (.areturn, 1) := by decide +kernel
theorem dX9_lawOfRow_37 : decode cX9_lawOfRow 37 = .ok (.iload 4, 2) := by decide +kernel
theorem dX9_lawOfRow_39 : decode cX9_lawOfRow 39 = .ok (.bipush 6, 2) := by decide +kernel
theorem dX9_lawOfRow_41 : decode cX9_lawOfRow 41 = .ok (.if_icmp .gt 16, 3) := by decide +kernel
theorem dX9_lawOfRow_44 : decode cX9_lawOfRow 44 = .ok (.aload_n 0, 1) := by decide +kernel
theorem dX9_lawOfRow_45 : decode cX9_lawOfRow 45 = .ok (.getfield 42, 3) := by decide +kernel
theorem dX9_lawOfRow_48 : decode cX9_lawOfRow 48 = .ok (.iload 4, 2) := by decide +kernel
theorem dX9_lawOfRow_50 : decode cX9_lawOfRow 50 = .ok (.iconst 3, 1) := by decide +kernel
theorem dX9_lawOfRow_51 : decode cX9_lawOfRow 51 = .ok (.invokestatic 169, 3) := by decide +kernel
theorem dX9_lawOfRow_54 : decode cX9_lawOfRow 54 = .ok (.ifCond .ne 7, 3) := by decide +kernel
theorem dX9_lawOfRow_57 : decode cX9_lawOfRow 57 = .ok (.aconst_null, 1) := by decide +kernel
theorem dX9_lawOfRow_58 : decode cX9_lawOfRow 58 = .ok (.goto 19, 3) := by decide +kernel
theorem dX9_lawOfRow_61 : decode cX9_lawOfRow 61 = .ok (.new 230, 3) := by decide +kernel
theorem dX9_lawOfRow_64 : decode cX9_lawOfRow 64 = .ok (.dup, 1) := by decide +kernel
theorem dX9_lawOfRow_65 : decode cX9_lawOfRow 65 = .ok (.aload_n 0, 1) := by decide +kernel
theorem dX9_lawOfRow_66 : decode cX9_lawOfRow 66 = .ok (.getfield 42, 3) := by decide +kernel
theorem dX9_lawOfRow_69 : decode cX9_lawOfRow 69 = .ok (.iload 4, 2) := by decide +kernel
theorem dX9_lawOfRow_71 : decode cX9_lawOfRow 71 = .ok (.invokestatic 263, 3) := by decide +kernel
theorem dX9_lawOfRow_74 : decode cX9_lawOfRow 74 = .ok (.invokespecial 272, 3) := by decide +kernel
theorem dX9_lawOfRow_77 : decode cX9_lawOfRow 77 = .ok (.areturn, 1) := by decide +kernel
theorem dX9_lawOfNumbers_0 : decode cX9_lawOfNumbers 0 = .ok (.iload_n 0, 1) := by decide +kernel
theorem dX9_lawOfNumbers_1 : decode cX9_lawOfNumbers 1 = .ok (.iload_n 1, 1) := by decide +kernel
theorem dX9_lawOfNumbers_2 : decode cX9_lawOfNumbers 2 = .ok (.iload_n 2, 1) := by decide +kernel
theorem dX9_lawOfNumbers_3 : decode cX9_lawOfNumbers 3 = .ok (.invokestatic 273, 3) := by decide +kernel
theorem dX9_lawOfNumbers_6 : decode cX9_lawOfNumbers 6 = .ok (.ifCond .ne 14, 3) := by decide +kernel
theorem dX9_lawOfNumbers_9 : decode cX9_lawOfNumbers 9 = .ok (.new 49, 3) := by decide +kernel
theorem dX9_lawOfNumbers_12 : decode cX9_lawOfNumbers 12 = .ok (.dup, 1) := by decide +kernel
theorem dX9_lawOfNumbers_13 : decode cX9_lawOfNumbers 13 = .ok (.ldc_w 277, 3) := by decide +kernel
theorem dX9_lawOfNumbers_16 : decode cX9_lawOfNumbers 16 = .ok (.invokespecial 53, 3) := by decide +kernel
theorem dX9_lawOfNumbers_19 : decode cX9_lawOfNumbers 19 = .ok (.athrow, 1) := by decide +kernel
theorem dX9_lawOfNumbers_20 : decode cX9_lawOfNumbers 20 = .ok (.iload_n 0, 1) := by decide +kernel
theorem dX9_lawOfNumbers_21 : decode cX9_lawOfNumbers 21 = .ok (.tableswitch 58 1 3 #[27, 38, 49], 27) := by decide +kernel
theorem dX9_lawOfNumbers_48 : decode cX9_lawOfNumbers 48 = .ok (.new 27, 3) := by decide +kernel
theorem dX9_lawOfNumbers_51 : decode cX9_lawOfNumbers 51 = .ok (.dup, 1) := by decide +kernel
theorem dX9_lawOfNumbers_52 : decode cX9_lawOfNumbers 52 = .ok (.iload_n 1, 1) := by decide +kernel
theorem dX9_lawOfNumbers_53 : decode cX9_lawOfNumbers 53 = .ok (.iload_n 2, 1) := by decide +kernel
theorem dX9_lawOfNumbers_54 : decode cX9_lawOfNumbers 54 = .ok (.iconst 0, 1) := by decide +kernel
theorem dX9_lawOfNumbers_55 : decode cX9_lawOfNumbers 55 = .ok (.invokespecial 29, 3) := by decide +kernel
theorem dX9_lawOfNumbers_58 : decode cX9_lawOfNumbers 58 = .ok (.areturn, 1) := by decide +kernel
theorem dX9_lawOfNumbers_59 : decode cX9_lawOfNumbers 59 = .ok (.new 27, 3) := by decide +kernel
theorem dX9_lawOfNumbers_62 : decode cX9_lawOfNumbers 62 = .ok (.dup, 1) := by decide +kernel
theorem dX9_lawOfNumbers_63 : decode cX9_lawOfNumbers 63 = .ok (.iload_n 1, 1) := by decide +kernel
theorem dX9_lawOfNumbers_64 : decode cX9_lawOfNumbers 64 = .ok (.iload_n 2, 1) := by decide +kernel
theorem dX9_lawOfNumbers_65 : decode cX9_lawOfNumbers 65 = .ok (.iconst 1, 1) := by decide +kernel
theorem dX9_lawOfNumbers_66 : decode cX9_lawOfNumbers 66 = .ok (.invokespecial 29, 3) := by decide +kernel
theorem dX9_lawOfNumbers_69 : decode cX9_lawOfNumbers 69 = .ok (.areturn, 1) := by decide +kernel
theorem dX9_lawOfNumbers_70 : decode cX9_lawOfNumbers 70 = .ok (.new 279, 3) := by decide +kernel
theorem dX9_lawOfNumbers_73 : decode cX9_lawOfNumbers 73 = .ok (.dup, 1) := by decide +kernel
theorem dX9_lawOfNumbers_74 : decode cX9_lawOfNumbers 74 = .ok (.iload_n 1, 1) := by decide +kernel
theorem dX9_lawOfNumbers_75 : decode cX9_lawOfNumbers 75 = .ok (.invokespecial 281, 3) := by decide +kernel
theorem dX9_lawOfNumbers_78 : decode cX9_lawOfNumbers 78 = .ok (.areturn, 1) := by decide +kernel
theorem dX9_lawOfNumbers_79 : decode cX9_lawOfNumbers 79 = .ok (.new 282, 3) := by decide +kernel
theorem dX9_lawOfNumbers_82 : decode cX9_lawOfNumbers 82 = .ok (.dup, 1) := by decide +kernel
theorem dX9_lawOfNumbers_83 : decode cX9_lawOfNumbers 83 = .ok (.invokespecial 284, 3) := by decide +kernel
theorem dX9_lawOfNumbers_86 : decode cX9_lawOfNumbers 86 = .ok (.areturn, 1) := by decide +kernel
theorem dX9_areNumbersFor_0 : decode cX9_areNumbersFor 0 = .ok (.iload_n 0, 1) := by decide +kernel
theorem dX9_areNumbersFor_1 : decode cX9_areNumbersFor 1 = .ok (.tableswitch 109 1 4 #[31, 53, 75, 95], 31) := by decide +kernel
theorem dX9_areNumbersFor_32 : decode cX9_areNumbersFor 32 = .ok (.iload_n 2, 1) := by decide +kernel
theorem dX9_areNumbersFor_33 : decode cX9_areNumbersFor 33 = .ok (.iconst 1, 1) := by decide +kernel
theorem dX9_areNumbersFor_34 : decode cX9_areNumbersFor 34 = .ok (.if_icmp .lt 18, 3) := by decide +kernel
theorem dX9_areNumbersFor_37 : decode cX9_areNumbersFor 37 = .ok (.iload_n 1, 1) := by decide +kernel
theorem dX9_areNumbersFor_38 : decode cX9_areNumbersFor 38 = .ok (.iload_n 2, 1) := by decide +kernel
theorem dX9_areNumbersFor_39 : decode cX9_areNumbersFor 39 = .ok (.if_icmp .le 13, 3) := by decide +kernel
theorem dX9_areNumbersFor_42 : decode cX9_areNumbersFor 42 = .ok (.iload_n 1, 1) := by decide +kernel
theorem dX9_areNumbersFor_43 : decode cX9_areNumbersFor 43 = .ok (.bipush 30, 2) := by decide +kernel
theorem dX9_areNumbersFor_45 : decode cX9_areNumbersFor 45 = .ok (.if_icmp .gt 7, 3) := by decide +kernel
theorem dX9_areNumbersFor_48 : decode cX9_areNumbersFor 48 = .ok (.iconst 1, 1) := by decide +kernel
theorem dX9_areNumbersFor_49 : decode cX9_areNumbersFor 49 = .ok (.goto 4, 3) := by decide +kernel
theorem dX9_areNumbersFor_52 : decode cX9_areNumbersFor 52 = .ok (.iconst 0, 1) := by decide +kernel
theorem dX9_areNumbersFor_53 : decode cX9_areNumbersFor 53 = .ok (.ireturn, 1) := by decide +kernel
theorem dX9_areNumbersFor_54 : decode cX9_areNumbersFor 54 = .ok (.iload_n 2, 1) := by decide +kernel
theorem dX9_areNumbersFor_55 : decode cX9_areNumbersFor 55 = .ok (.iconst 1, 1) := by decide +kernel
theorem dX9_areNumbersFor_56 : decode cX9_areNumbersFor 56 = .ok (.if_icmp .lt 18, 3) := by decide +kernel
theorem dX9_areNumbersFor_59 : decode cX9_areNumbersFor 59 = .ok (.iload_n 1, 1) := by decide +kernel
theorem dX9_areNumbersFor_60 : decode cX9_areNumbersFor 60 = .ok (.iload_n 2, 1) := by decide +kernel
theorem dX9_areNumbersFor_61 : decode cX9_areNumbersFor 61 = .ok (.if_icmp .lt 13, 3) := by decide +kernel
theorem dX9_areNumbersFor_64 : decode cX9_areNumbersFor 64 = .ok (.iload_n 1, 1) := by decide +kernel
theorem dX9_areNumbersFor_65 : decode cX9_areNumbersFor 65 = .ok (.bipush 30, 2) := by decide +kernel
theorem dX9_areNumbersFor_67 : decode cX9_areNumbersFor 67 = .ok (.if_icmp .gt 7, 3) := by decide +kernel
theorem dX9_areNumbersFor_70 : decode cX9_areNumbersFor 70 = .ok (.iconst 1, 1) := by decide +kernel
theorem dX9_areNumbersFor_71 : decode cX9_areNumbersFor 71 = .ok (.goto 4, 3) := by decide +kernel
theorem dX9_areNumbersFor_74 : decode cX9_areNumbersFor 74 = .ok (.iconst 0, 1) := by decide +kernel
theorem dX9_areNumbersFor_75 : decode cX9_areNumbersFor 75 = .ok (.ireturn, 1) := by decide +kernel
theorem dX9_areNumbersFor_76 : decode cX9_areNumbersFor 76 = .ok (.iload_n 1, 1) := by decide +kernel
theorem dX9_areNumbersFor_77 : decode cX9_areNumbersFor 77 = .ok (.ifCond .lt 17, 3) := by decide +kernel
theorem dX9_areNumbersFor_80 : decode cX9_areNumbersFor 80 = .ok (.iload_n 1, 1) := by decide +kernel
theorem dX9_areNumbersFor_81 : decode cX9_areNumbersFor 81 = .ok (.bipush 9, 2) := by decide +kernel
theorem dX9_areNumbersFor_83 : decode cX9_areNumbersFor 83 = .ok (.if_icmp .gt 11, 3) := by decide +kernel
theorem dX9_areNumbersFor_86 : decode cX9_areNumbersFor 86 = .ok (.iload_n 2, 1) := by decide +kernel
theorem dX9_areNumbersFor_87 : decode cX9_areNumbersFor 87 = .ok (.ifCond .ne 7, 3) := by decide +kernel
theorem dX9_areNumbersFor_90 : decode cX9_areNumbersFor 90 = .ok (.iconst 1, 1) := by decide +kernel
theorem dX9_areNumbersFor_91 : decode cX9_areNumbersFor 91 = .ok (.goto 4, 3) := by decide +kernel
theorem dX9_areNumbersFor_94 : decode cX9_areNumbersFor 94 = .ok (.iconst 0, 1) := by decide +kernel
theorem dX9_areNumbersFor_95 : decode cX9_areNumbersFor 95 = .ok (.ireturn, 1) := by decide +kernel
theorem dX9_areNumbersFor_96 : decode cX9_areNumbersFor 96 = .ok (.iload_n 1, 1) := by decide +kernel
theorem dX9_areNumbersFor_97 : decode cX9_areNumbersFor 97 = .ok (.ifCond .ne 11, 3) := by decide +kernel
theorem dX9_areNumbersFor_100 : decode cX9_areNumbersFor 100 = .ok (.iload_n 2, 1) := by decide +kernel
theorem dX9_areNumbersFor_101 : decode cX9_areNumbersFor 101 = .ok (.ifCond .ne 7, 3) := by decide +kernel
theorem dX9_areNumbersFor_104 : decode cX9_areNumbersFor 104 = .ok (.iconst 1, 1) := by decide +kernel
theorem dX9_areNumbersFor_105 : decode cX9_areNumbersFor 105 = .ok (.goto 4, 3) := by decide +kernel
theorem dX9_areNumbersFor_108 : decode cX9_areNumbersFor 108 = .ok (.iconst 0, 1) := by decide +kernel
theorem dX9_areNumbersFor_109 : decode cX9_areNumbersFor 109 = .ok (.ireturn, 1) := by decide +kernel
theorem dX9_areNumbersFor_110 : decode cX9_areNumbersFor 110 = .ok (.iconst 0, 1) := by decide +kernel
theorem dX9_areNumbersFor_111 : decode cX9_areNumbersFor 111 = .ok (.ireturn, 1) := by decide +kernel
theorem dX9_areBelow_0 : decode cX9_areBelow 0 = .ok (.iconst 0, 1) := by decide +kernel
theorem dX9_areBelow_1 : decode cX9_areBelow 1 = .ok (.istore_n 3, 1) := by decide +kernel
theorem dX9_areBelow_2 : decode cX9_areBelow 2 = .ok (.iload_n 3, 1) := by decide +kernel
theorem dX9_areBelow_3 : decode cX9_areBelow 3 = .ok (.iload_n 1, 1) := by decide +kernel
theorem dX9_areBelow_4 : decode cX9_areBelow 4 = .ok (.if_icmp .ge 24, 3) := by decide +kernel
theorem dX9_areBelow_7 : decode cX9_areBelow 7 = .ok (.iload_n 3, 1) := by decide +kernel
theorem dX9_areBelow_8 : decode cX9_areBelow 8 = .ok (.aload_n 0, 1) := by decide +kernel
theorem dX9_areBelow_9 : decode cX9_areBelow 9 = .ok (.arraylength, 1) := by decide +kernel
theorem dX9_areBelow_10 : decode cX9_areBelow 10 = .ok (.if_icmp .ge 18, 3) := by decide +kernel
theorem dX9_areBelow_13 : decode cX9_areBelow 13 = .ok (.aload_n 0, 1) := by decide +kernel
theorem dX9_areBelow_14 : decode cX9_areBelow 14 = .ok (.iload_n 3, 1) := by decide +kernel
theorem dX9_areBelow_15 : decode cX9_areBelow 15 = .ok (.iaload, 1) := by decide +kernel
theorem dX9_areBelow_16 : decode cX9_areBelow 16 = .ok (.iload_n 2, 1) := by decide +kernel
theorem dX9_areBelow_17 : decode cX9_areBelow 17 = .ok (.if_icmp .lt 5, 3) := by decide +kernel
theorem dX9_areBelow_20 : decode cX9_areBelow 20 = .ok (.iconst 0, 1) := by decide +kernel
theorem dX9_areBelow_21 : decode cX9_areBelow 21 = .ok (.ireturn, 1) := by decide +kernel
theorem dX9_areBelow_22 : decode cX9_areBelow 22 = .ok (.iinc 3 1, 3) := by decide +kernel
theorem dX9_areBelow_25 : decode cX9_areBelow 25 = .ok (.goto (-23), 3) := by decide +kernel
theorem dX9_areBelow_28 : decode cX9_areBelow 28 = .ok (.iconst 1, 1) := by decide +kernel
theorem dX9_areBelow_29 : decode cX9_areBelow 29 = .ok (.ireturn, 1) := by decide +kernel
theorem dX9_areAlike_0 : decode cX9_areAlike 0 = .ok (.iconst 0, 1) := by decide +kernel
theorem dX9_areAlike_1 : decode cX9_areAlike 1 = .ok (.istore_n 3, 1) := by decide +kernel
theorem dX9_areAlike_2 : decode cX9_areAlike 2 = .ok (.iload_n 3, 1) := by decide +kernel
theorem dX9_areAlike_3 : decode cX9_areAlike 3 = .ok (.iload_n 2, 1) := by decide +kernel
theorem dX9_areAlike_4 : decode cX9_areAlike 4 = .ok (.if_icmp .ge 32, 3) := by decide +kernel
theorem dX9_areAlike_7 : decode cX9_areAlike 7 = .ok (.iload_n 3, 1) := by decide +kernel
theorem dX9_areAlike_8 : decode cX9_areAlike 8 = .ok (.aload_n 0, 1) := by decide +kernel
theorem dX9_areAlike_9 : decode cX9_areAlike 9 = .ok (.arraylength, 1) := by decide +kernel
theorem dX9_areAlike_10 : decode cX9_areAlike 10 = .ok (.if_icmp .ge 26, 3) := by decide +kernel
theorem dX9_areAlike_13 : decode cX9_areAlike 13 = .ok (.iload_n 3, 1) := by decide +kernel
theorem dX9_areAlike_14 : decode cX9_areAlike 14 = .ok (.aload_n 1, 1) := by decide +kernel
theorem dX9_areAlike_15 : decode cX9_areAlike 15 = .ok (.arraylength, 1) := by decide +kernel
theorem dX9_areAlike_16 : decode cX9_areAlike 16 = .ok (.if_icmp .ge 20, 3) := by decide +kernel
theorem dX9_areAlike_19 : decode cX9_areAlike 19 = .ok (.aload_n 0, 1) := by decide +kernel
theorem dX9_areAlike_20 : decode cX9_areAlike 20 = .ok (.iload_n 3, 1) := by decide +kernel
theorem dX9_areAlike_21 : decode cX9_areAlike 21 = .ok (.iaload, 1) := by decide +kernel
theorem dX9_areAlike_22 : decode cX9_areAlike 22 = .ok (.aload_n 1, 1) := by decide +kernel
theorem dX9_areAlike_23 : decode cX9_areAlike 23 = .ok (.iload_n 3, 1) := by decide +kernel
theorem dX9_areAlike_24 : decode cX9_areAlike 24 = .ok (.iaload, 1) := by decide +kernel
theorem dX9_areAlike_25 : decode cX9_areAlike 25 = .ok (.if_icmp .eq 5, 3) := by decide +kernel
theorem dX9_areAlike_28 : decode cX9_areAlike 28 = .ok (.iconst 0, 1) := by decide +kernel
theorem dX9_areAlike_29 : decode cX9_areAlike 29 = .ok (.ireturn, 1) := by decide +kernel
theorem dX9_areAlike_30 : decode cX9_areAlike 30 = .ok (.iinc 3 1, 3) := by decide +kernel
theorem dX9_areAlike_33 : decode cX9_areAlike 33 = .ok (.goto (-31), 3) := by decide +kernel
theorem dX9_areAlike_36 : decode cX9_areAlike 36 = .ok (.iconst 1, 1) := by decide +kernel
theorem dX9_areAlike_37 : decode cX9_areAlike 37 = .ok (.ireturn, 1) := by decide +kernel
theorem dX9_periodEnd_0 : decode cX9_periodEnd 0 = .ok (.iload_n 1, 1) := by decide +kernel
theorem dX9_periodEnd_1 : decode cX9_periodEnd 1 = .ok (.iload_n 3, 1) := by decide +kernel
theorem dX9_periodEnd_2 : decode cX9_periodEnd 2 = .ok (.iadd, 1) := by decide +kernel
theorem dX9_periodEnd_3 : decode cX9_periodEnd 3 = .ok (.istore 4, 2) := by decide +kernel
theorem dX9_periodEnd_5 : decode cX9_periodEnd 5 = .ok (.iload 4, 2) := by decide +kernel
theorem dX9_periodEnd_7 : decode cX9_periodEnd 7 = .ok (.iload_n 2, 1) := by decide +kernel
theorem dX9_periodEnd_8 : decode cX9_periodEnd 8 = .ok (.if_icmp .ge 32, 3) := by decide +kernel
theorem dX9_periodEnd_11 : decode cX9_periodEnd 11 = .ok (.iload 4, 2) := by decide +kernel
theorem dX9_periodEnd_13 : decode cX9_periodEnd 13 = .ok (.aload_n 0, 1) := by decide +kernel
theorem dX9_periodEnd_14 : decode cX9_periodEnd 14 = .ok (.arraylength, 1) := by decide +kernel
theorem dX9_periodEnd_15 : decode cX9_periodEnd 15 = .ok (.if_icmp .ge 25, 3) := by decide +kernel
theorem dX9_periodEnd_18 : decode cX9_periodEnd 18 = .ok (.aload_n 0, 1) := by decide +kernel
theorem dX9_periodEnd_19 : decode cX9_periodEnd 19 = .ok (.iload 4, 2) := by decide +kernel
theorem dX9_periodEnd_21 : decode cX9_periodEnd 21 = .ok (.iaload, 1) := by decide +kernel
theorem dX9_periodEnd_22 : decode cX9_periodEnd 22 = .ok (.aload_n 0, 1) := by decide +kernel
theorem dX9_periodEnd_23 : decode cX9_periodEnd 23 = .ok (.iload 4, 2) := by decide +kernel
theorem dX9_periodEnd_25 : decode cX9_periodEnd 25 = .ok (.iload_n 3, 1) := by decide +kernel
theorem dX9_periodEnd_26 : decode cX9_periodEnd 26 = .ok (.isub, 1) := by decide +kernel
theorem dX9_periodEnd_27 : decode cX9_periodEnd 27 = .ok (.iaload, 1) := by decide +kernel
theorem dX9_periodEnd_28 : decode cX9_periodEnd 28 = .ok (.if_icmp .eq 6, 3) := by decide +kernel
theorem dX9_periodEnd_31 : decode cX9_periodEnd 31 = .ok (.iload 4, 2) := by decide +kernel
theorem dX9_periodEnd_33 : decode cX9_periodEnd 33 = .ok (.ireturn, 1) := by decide +kernel
theorem dX9_periodEnd_34 : decode cX9_periodEnd 34 = .ok (.iinc 4 1, 3) := by decide +kernel
theorem dX9_periodEnd_37 : decode cX9_periodEnd 37 = .ok (.goto (-32), 3) := by decide +kernel
theorem dX9_periodEnd_40 : decode cX9_periodEnd 40 = .ok (.iload_n 2, 1) := by decide +kernel
theorem dX9_periodEnd_41 : decode cX9_periodEnd 41 = .ok (.ireturn, 1) := by decide +kernel
theorem dX9_leastPeriod_0 : decode cX9_leastPeriod 0 = .ok (.iconst 1, 1) := by decide +kernel
theorem dX9_leastPeriod_1 : decode cX9_leastPeriod 1 = .ok (.istore_n 3, 1) := by decide +kernel
theorem dX9_leastPeriod_2 : decode cX9_leastPeriod 2 = .ok (.iload_n 3, 1) := by decide +kernel
theorem dX9_leastPeriod_3 : decode cX9_leastPeriod 3 = .ok (.iload_n 2, 1) := by decide +kernel
theorem dX9_leastPeriod_4 : decode cX9_leastPeriod 4 = .ok (.iload_n 1, 1) := by decide +kernel
theorem dX9_leastPeriod_5 : decode cX9_leastPeriod 5 = .ok (.isub, 1) := by decide +kernel
theorem dX9_leastPeriod_6 : decode cX9_leastPeriod 6 = .ok (.if_icmp .ge 22, 3) := by decide +kernel
theorem dX9_leastPeriod_9 : decode cX9_leastPeriod 9 = .ok (.aload_n 0, 1) := by decide +kernel
theorem dX9_leastPeriod_10 : decode cX9_leastPeriod 10 = .ok (.iload_n 1, 1) := by decide +kernel
theorem dX9_leastPeriod_11 : decode cX9_leastPeriod 11 = .ok (.iload_n 2, 1) := by decide +kernel
theorem dX9_leastPeriod_12 : decode cX9_leastPeriod 12 = .ok (.iload_n 3, 1) := by decide +kernel
theorem dX9_leastPeriod_13 : decode cX9_leastPeriod 13 = .ok (.invokestatic 285, 3) := by decide +kernel
theorem dX9_leastPeriod_16 : decode cX9_leastPeriod 16 = .ok (.iload_n 2, 1) := by decide +kernel
theorem dX9_leastPeriod_17 : decode cX9_leastPeriod 17 = .ok (.if_icmp .ne 5, 3) := by decide +kernel
theorem dX9_leastPeriod_20 : decode cX9_leastPeriod 20 = .ok (.iload_n 3, 1) := by decide +kernel
theorem dX9_leastPeriod_21 : decode cX9_leastPeriod 21 = .ok (.ireturn, 1) := by decide +kernel
theorem dX9_leastPeriod_22 : decode cX9_leastPeriod 22 = .ok (.iinc 3 1, 3) := by decide +kernel
theorem dX9_leastPeriod_25 : decode cX9_leastPeriod 25 = .ok (.goto (-23), 3) := by decide +kernel
theorem dX9_leastPeriod_28 : decode cX9_leastPeriod 28 = .ok (.iload_n 2, 1) := by decide +kernel
theorem dX9_leastPeriod_29 : decode cX9_leastPeriod 29 = .ok (.iload_n 1, 1) := by decide +kernel
theorem dX9_leastPeriod_30 : decode cX9_leastPeriod 30 = .ok (.isub, 1) := by decide +kernel
theorem dX9_leastPeriod_31 : decode cX9_leastPeriod 31 = .ok (.ireturn, 1) := by decide +kernel
theorem dX9_lowestTerm_0 : decode cX9_lowestTerm 0 = .ok (.iload_n 0, 1) := by decide +kernel
theorem dX9_lowestTerm_1 : decode cX9_lowestTerm 1 = .ok (.istore_n 2, 1) := by decide +kernel
theorem dX9_lowestTerm_2 : decode cX9_lowestTerm 2 = .ok (.iload_n 2, 1) := by decide +kernel
theorem dX9_lowestTerm_3 : decode cX9_lowestTerm 3 = .ok (.iconst 1, 1) := by decide +kernel
theorem dX9_lowestTerm_4 : decode cX9_lowestTerm 4 = .ok (.if_icmp .le 25, 3) := by decide +kernel
theorem dX9_lowestTerm_7 : decode cX9_lowestTerm 7 = .ok (.iload_n 0, 1) := by decide +kernel
theorem dX9_lowestTerm_8 : decode cX9_lowestTerm 8 = .ok (.iload_n 2, 1) := by decide +kernel
theorem dX9_lowestTerm_9 : decode cX9_lowestTerm 9 = .ok (.irem, 1) := by decide +kernel
theorem dX9_lowestTerm_10 : decode cX9_lowestTerm 10 = .ok (.ifCond .ne 13, 3) := by decide +kernel
theorem dX9_lowestTerm_13 : decode cX9_lowestTerm 13 = .ok (.iload_n 1, 1) := by decide +kernel
theorem dX9_lowestTerm_14 : decode cX9_lowestTerm 14 = .ok (.iload_n 2, 1) := by decide +kernel
theorem dX9_lowestTerm_15 : decode cX9_lowestTerm 15 = .ok (.irem, 1) := by decide +kernel
theorem dX9_lowestTerm_16 : decode cX9_lowestTerm 16 = .ok (.ifCond .ne 7, 3) := by decide +kernel
theorem dX9_lowestTerm_19 : decode cX9_lowestTerm 19 = .ok (.iload_n 0, 1) := by decide +kernel
theorem dX9_lowestTerm_20 : decode cX9_lowestTerm 20 = .ok (.iload_n 2, 1) := by decide +kernel
theorem dX9_lowestTerm_21 : decode cX9_lowestTerm 21 = .ok (.idiv, 1) := by decide +kernel
theorem dX9_lowestTerm_22 : decode cX9_lowestTerm 22 = .ok (.ireturn, 1) := by decide +kernel
theorem dX9_lowestTerm_23 : decode cX9_lowestTerm 23 = .ok (.iinc 2 (-1), 3) := by decide +kernel
theorem dX9_lowestTerm_26 : decode cX9_lowestTerm 26 = .ok (.goto (-24), 3) := by decide +kernel
theorem dX9_lowestTerm_29 : decode cX9_lowestTerm 29 = .ok (.iload_n 0, 1) := by decide +kernel
theorem dX9_lowestTerm_30 : decode cX9_lowestTerm 30 = .ok (.ireturn, 1) := by decide +kernel
theorem dX9_seekRun_0 : decode cX9_seekRun 0 = .ok (.iconst 0, 1) := by decide +kernel
theorem dX9_seekRun_1 : decode cX9_seekRun 1 = .ok (.istore 4, 2) := by decide +kernel
theorem dX9_seekRun_3 : decode cX9_seekRun 3 = .ok (.iconst 0, 1) := by decide +kernel
theorem dX9_seekRun_4 : decode cX9_seekRun 4 = .ok (.istore 5, 2) := by decide +kernel
theorem dX9_seekRun_6 : decode cX9_seekRun 6 = .ok (.iload 5, 2) := by decide +kernel
theorem dX9_seekRun_8 : decode cX9_seekRun 8 = .ok (.iload_n 1, 1) := by decide +kernel
theorem dX9_seekRun_9 : decode cX9_seekRun 9 = .ok (.if_icmp .ge 80, 3) := by decide +kernel
theorem dX9_seekRun_12 : decode cX9_seekRun 12 = .ok (.iconst 1, 1) := by decide +kernel
theorem dX9_seekRun_13 : decode cX9_seekRun 13 = .ok (.istore 6, 2) := by decide +kernel
theorem dX9_seekRun_15 : decode cX9_seekRun 15 = .ok (.iload 5, 2) := by decide +kernel
theorem dX9_seekRun_17 : decode cX9_seekRun 17 = .ok (.iconst 2, 1) := by decide +kernel
theorem dX9_seekRun_18 : decode cX9_seekRun 18 = .ok (.iload 6, 2) := by decide +kernel
theorem dX9_seekRun_20 : decode cX9_seekRun 20 = .ok (.imul, 1) := by decide +kernel
theorem dX9_seekRun_21 : decode cX9_seekRun 21 = .ok (.iadd, 1) := by decide +kernel
theorem dX9_seekRun_22 : decode cX9_seekRun 22 = .ok (.iload_n 1, 1) := by decide +kernel
theorem dX9_seekRun_23 : decode cX9_seekRun 23 = .ok (.if_icmp .gt 60, 3) := by decide +kernel
theorem dX9_seekRun_26 : decode cX9_seekRun 26 = .ok (.aload_n 0, 1) := by decide +kernel
theorem dX9_seekRun_27 : decode cX9_seekRun 27 = .ok (.iload 5, 2) := by decide +kernel
theorem dX9_seekRun_29 : decode cX9_seekRun 29 = .ok (.iload_n 1, 1) := by decide +kernel
theorem dX9_seekRun_30 : decode cX9_seekRun 30 = .ok (.iload 6, 2) := by decide +kernel
theorem dX9_seekRun_32 : decode cX9_seekRun 32 = .ok (.invokevirtual 289, 3) := by decide +kernel
theorem dX9_seekRun_35 : decode cX9_seekRun 35 = .ok (.istore 7, 2) := by decide +kernel
theorem dX9_seekRun_37 : decode cX9_seekRun 37 = .ok (.iload 7, 2) := by decide +kernel
theorem dX9_seekRun_39 : decode cX9_seekRun 39 = .ok (.iconst (-1), 1) := by decide +kernel
theorem dX9_seekRun_40 : decode cX9_seekRun 40 = .ok (.if_icmp .ne 6, 3) := by decide +kernel
theorem dX9_seekRun_43 : decode cX9_seekRun 43 = .ok (.goto 34, 3) := by decide +kernel
theorem dX9_seekRun_46 : decode cX9_seekRun 46 = .ok (.iload 4, 2) := by decide +kernel
theorem dX9_seekRun_48 : decode cX9_seekRun 48 = .ok (.iload_n 2, 1) := by decide +kernel
theorem dX9_seekRun_49 : decode cX9_seekRun 49 = .ok (.if_icmp .ne 25, 3) := by decide +kernel
theorem dX9_seekRun_52 : decode cX9_seekRun 52 = .ok (.iload_n 3, 1) := by decide +kernel
theorem dX9_seekRun_53 : decode cX9_seekRun 53 = .ok (.ifCond .ne 8, 3) := by decide +kernel
theorem dX9_seekRun_56 : decode cX9_seekRun 56 = .ok (.iload 5, 2) := by decide +kernel
theorem dX9_seekRun_58 : decode cX9_seekRun 58 = .ok (.goto 15, 3) := by decide +kernel
theorem dX9_seekRun_61 : decode cX9_seekRun 61 = .ok (.iload_n 3, 1) := by decide +kernel
theorem dX9_seekRun_62 : decode cX9_seekRun 62 = .ok (.iconst 1, 1) := by decide +kernel
theorem dX9_seekRun_63 : decode cX9_seekRun 63 = .ok (.if_icmp .ne 8, 3) := by decide +kernel
theorem dX9_seekRun_66 : decode cX9_seekRun 66 = .ok (.iload 7, 2) := by decide +kernel
theorem dX9_seekRun_68 : decode cX9_seekRun 68 = .ok (.goto 5, 3) := by decide +kernel
theorem dX9_seekRun_71 : decode cX9_seekRun 71 = .ok (.iload 6, 2) := by decide +kernel
theorem dX9_seekRun_73 : decode cX9_seekRun 73 = .ok (.ireturn, 1) := by decide +kernel
theorem dX9_seekRun_74 : decode cX9_seekRun 74 = .ok (.iinc 4 1, 3) := by decide +kernel
theorem dX9_seekRun_77 : decode cX9_seekRun 77 = .ok (.iinc 6 1, 3) := by decide +kernel
theorem dX9_seekRun_80 : decode cX9_seekRun 80 = .ok (.goto (-65), 3) := by decide +kernel
theorem dX9_seekRun_83 : decode cX9_seekRun 83 = .ok (.iinc 5 1, 3) := by decide +kernel
theorem dX9_seekRun_86 : decode cX9_seekRun 86 = .ok (.goto (-80), 3) := by decide +kernel
theorem dX9_seekRun_89 : decode cX9_seekRun 89 = .ok (.iload_n 2, 1) := by decide +kernel
theorem dX9_seekRun_90 : decode cX9_seekRun 90 = .ok (.iconst (-1), 1) := by decide +kernel
theorem dX9_seekRun_91 : decode cX9_seekRun 91 = .ok (.if_icmp .ne 8, 3) := by decide +kernel
theorem dX9_seekRun_94 : decode cX9_seekRun 94 = .ok (.iload 4, 2) := by decide +kernel
theorem dX9_seekRun_96 : decode cX9_seekRun 96 = .ok (.goto 4, 3) := by decide +kernel
theorem dX9_seekRun_99 : decode cX9_seekRun 99 = .ok (.iconst (-1), 1) := by decide +kernel
theorem dX9_seekRun_100 : decode cX9_seekRun 100 = .ok (.ireturn, 1) := by decide +kernel
theorem dX9_runEnd_0 : decode cX9_runEnd 0 = .ok (.iload_n 1, 1) := by decide +kernel
theorem dX9_runEnd_1 : decode cX9_runEnd 1 = .ok (.ifCond .le 26, 3) := by decide +kernel
theorem dX9_runEnd_4 : decode cX9_runEnd 4 = .ok (.aload_n 0, 1) := by decide +kernel
theorem dX9_runEnd_5 : decode cX9_runEnd 5 = .ok (.getfield 42, 3) := by decide +kernel
theorem dX9_runEnd_8 : decode cX9_runEnd 8 = .ok (.iload_n 1, 1) := by decide +kernel
theorem dX9_runEnd_9 : decode cX9_runEnd 9 = .ok (.iconst 1, 1) := by decide +kernel
theorem dX9_runEnd_10 : decode cX9_runEnd 10 = .ok (.isub, 1) := by decide +kernel
theorem dX9_runEnd_11 : decode cX9_runEnd 11 = .ok (.iaload, 1) := by decide +kernel
theorem dX9_runEnd_12 : decode cX9_runEnd 12 = .ok (.aload_n 0, 1) := by decide +kernel
theorem dX9_runEnd_13 : decode cX9_runEnd 13 = .ok (.getfield 42, 3) := by decide +kernel
theorem dX9_runEnd_16 : decode cX9_runEnd 16 = .ok (.iload_n 1, 1) := by decide +kernel
theorem dX9_runEnd_17 : decode cX9_runEnd 17 = .ok (.iconst 1, 1) := by decide +kernel
theorem dX9_runEnd_18 : decode cX9_runEnd 18 = .ok (.isub, 1) := by decide +kernel
theorem dX9_runEnd_19 : decode cX9_runEnd 19 = .ok (.iload_n 3, 1) := by decide +kernel
theorem dX9_runEnd_20 : decode cX9_runEnd 20 = .ok (.iadd, 1) := by decide +kernel
theorem dX9_runEnd_21 : decode cX9_runEnd 21 = .ok (.iaload, 1) := by decide +kernel
theorem dX9_runEnd_22 : decode cX9_runEnd 22 = .ok (.if_icmp .ne 5, 3) := by decide +kernel
theorem dX9_runEnd_25 : decode cX9_runEnd 25 = .ok (.iconst (-1), 1) := by decide +kernel
theorem dX9_runEnd_26 : decode cX9_runEnd 26 = .ok (.ireturn, 1) := by decide +kernel
theorem dX9_runEnd_27 : decode cX9_runEnd 27 = .ok (.aload_n 0, 1) := by decide +kernel
theorem dX9_runEnd_28 : decode cX9_runEnd 28 = .ok (.getfield 42, 3) := by decide +kernel
theorem dX9_runEnd_31 : decode cX9_runEnd 31 = .ok (.iload_n 1, 1) := by decide +kernel
theorem dX9_runEnd_32 : decode cX9_runEnd 32 = .ok (.iload_n 2, 1) := by decide +kernel
theorem dX9_runEnd_33 : decode cX9_runEnd 33 = .ok (.iload_n 3, 1) := by decide +kernel
theorem dX9_runEnd_34 : decode cX9_runEnd 34 = .ok (.invokestatic 285, 3) := by decide +kernel
theorem dX9_runEnd_37 : decode cX9_runEnd 37 = .ok (.istore 4, 2) := by decide +kernel
theorem dX9_runEnd_39 : decode cX9_runEnd 39 = .ok (.iload 4, 2) := by decide +kernel
theorem dX9_runEnd_41 : decode cX9_runEnd 41 = .ok (.iload_n 1, 1) := by decide +kernel
theorem dX9_runEnd_42 : decode cX9_runEnd 42 = .ok (.isub, 1) := by decide +kernel
theorem dX9_runEnd_43 : decode cX9_runEnd 43 = .ok (.iconst 2, 1) := by decide +kernel
theorem dX9_runEnd_44 : decode cX9_runEnd 44 = .ok (.iload_n 3, 1) := by decide +kernel
theorem dX9_runEnd_45 : decode cX9_runEnd 45 = .ok (.imul, 1) := by decide +kernel
theorem dX9_runEnd_46 : decode cX9_runEnd 46 = .ok (.if_icmp .lt 22, 3) := by decide +kernel
theorem dX9_runEnd_49 : decode cX9_runEnd 49 = .ok (.aload_n 0, 1) := by decide +kernel
theorem dX9_runEnd_50 : decode cX9_runEnd 50 = .ok (.getfield 42, 3) := by decide +kernel
theorem dX9_runEnd_53 : decode cX9_runEnd 53 = .ok (.iload_n 1, 1) := by decide +kernel
theorem dX9_runEnd_54 : decode cX9_runEnd 54 = .ok (.iload 4, 2) := by decide +kernel
theorem dX9_runEnd_56 : decode cX9_runEnd 56 = .ok (.invokestatic 113, 3) := by decide +kernel
theorem dX9_runEnd_59 : decode cX9_runEnd 59 = .ok (.iload_n 3, 1) := by decide +kernel
theorem dX9_runEnd_60 : decode cX9_runEnd 60 = .ok (.if_icmp .ne 8, 3) := by decide +kernel
theorem dX9_runEnd_63 : decode cX9_runEnd 63 = .ok (.iload 4, 2) := by decide +kernel
theorem dX9_runEnd_65 : decode cX9_runEnd 65 = .ok (.goto 4, 3) := by decide +kernel
theorem dX9_runEnd_68 : decode cX9_runEnd 68 = .ok (.iconst (-1), 1) := by decide +kernel
theorem dX9_runEnd_69 : decode cX9_runEnd 69 = .ok (.ireturn, 1) := by decide +kernel
theorem dX9_clashLetters_0 : decode cX9_clashLetters 0 = .ok (.iconst 1, 1) := by decide +kernel
theorem dX9_clashLetters_1 : decode cX9_clashLetters 1 = .ok (.istore_n 3, 1) := by decide +kernel
theorem dX9_clashLetters_2 : decode cX9_clashLetters 2 = .ok (.iload_n 3, 1) := by decide +kernel
theorem dX9_clashLetters_3 : decode cX9_clashLetters 3 = .ok (.iload_n 2, 1) := by decide +kernel
theorem dX9_clashLetters_4 : decode cX9_clashLetters 4 = .ok (.if_icmp .gt 28, 3) := by decide +kernel
theorem dX9_clashLetters_7 : decode cX9_clashLetters 7 = .ok (.aload_n 0, 1) := by decide +kernel
theorem dX9_clashLetters_8 : decode cX9_clashLetters 8 = .ok (.getfield 17, 3) := by decide +kernel
theorem dX9_clashLetters_11 : decode cX9_clashLetters 11 = .ok (.iload_n 1, 1) := by decide +kernel
theorem dX9_clashLetters_12 : decode cX9_clashLetters 12 = .ok (.aload_n 0, 1) := by decide +kernel
theorem dX9_clashLetters_13 : decode cX9_clashLetters 13 = .ok (.getfield 42, 3) := by decide +kernel
theorem dX9_clashLetters_16 : decode cX9_clashLetters 16 = .ok (.iload_n 3, 1) := by decide +kernel
theorem dX9_clashLetters_17 : decode cX9_clashLetters 17 = .ok (.invokestatic 126, 3) := by decide +kernel
theorem dX9_clashLetters_20 : decode cX9_clashLetters 20 = .ok (.iconst (-1), 1) := by decide +kernel
theorem dX9_clashLetters_21 : decode cX9_clashLetters 21 = .ok (.if_icmp .eq 5, 3) := by decide +kernel
theorem dX9_clashLetters_24 : decode cX9_clashLetters 24 = .ok (.iload_n 3, 1) := by decide +kernel
theorem dX9_clashLetters_25 : decode cX9_clashLetters 25 = .ok (.ireturn, 1) := by decide +kernel
theorem dX9_clashLetters_26 : decode cX9_clashLetters 26 = .ok (.iinc 3 1, 3) := by decide +kernel
theorem dX9_clashLetters_29 : decode cX9_clashLetters 29 = .ok (.goto (-27), 3) := by decide +kernel
theorem dX9_clashLetters_32 : decode cX9_clashLetters 32 = .ok (.iconst (-1), 1) := by decide +kernel
theorem dX9_clashLetters_33 : decode cX9_clashLetters 33 = .ok (.ireturn, 1) := by decide +kernel
theorem dX9_barringLaw_0 : decode cX9_barringLaw 0 = .ok (.iload_n 3, 1) := by decide +kernel
theorem dX9_barringLaw_1 : decode cX9_barringLaw 1 = .ok (.iconst 1, 1) := by decide +kernel
theorem dX9_barringLaw_2 : decode cX9_barringLaw 2 = .ok (.if_icmp .lt 9, 3) := by decide +kernel
theorem dX9_barringLaw_5 : decode cX9_barringLaw 5 = .ok (.iload_n 3, 1) := by decide +kernel
theorem dX9_barringLaw_6 : decode cX9_barringLaw 6 = .ok (.aload_n 2, 1) := by decide +kernel
theorem dX9_barringLaw_7 : decode cX9_barringLaw 7 = .ok (.arraylength, 1) := by decide +kernel
theorem dX9_barringLaw_8 : decode cX9_barringLaw 8 = .ok (.if_icmp .le 5, 3) := by decide +kernel
theorem dX9_barringLaw_11 : decode cX9_barringLaw 11 = .ok (.iconst (-1), 1) := by decide +kernel
theorem dX9_barringLaw_12 : decode cX9_barringLaw 12 = .ok (.ireturn, 1) := by decide +kernel
theorem dX9_barringLaw_13 : decode cX9_barringLaw 13 = .ok (.iconst 0, 1) := by decide +kernel
theorem dX9_barringLaw_14 : decode cX9_barringLaw 14 = .ok (.istore 4, 2) := by decide +kernel
theorem dX9_barringLaw_16 : decode cX9_barringLaw 16 = .ok (.iload 4, 2) := by decide +kernel
theorem dX9_barringLaw_18 : decode cX9_barringLaw 18 = .ok (.aload_n 0, 1) := by decide +kernel
theorem dX9_barringLaw_19 : decode cX9_barringLaw 19 = .ok (.arraylength, 1) := by decide +kernel
theorem dX9_barringLaw_20 : decode cX9_barringLaw 20 = .ok (.if_icmp .ge 47, 3) := by decide +kernel
theorem dX9_barringLaw_23 : decode cX9_barringLaw 23 = .ok (.iload_n 1, 1) := by decide +kernel
theorem dX9_barringLaw_24 : decode cX9_barringLaw 24 = .ok (.iload 4, 2) := by decide +kernel
theorem dX9_barringLaw_26 : decode cX9_barringLaw 26 = .ok (.ishr, 1) := by decide +kernel
theorem dX9_barringLaw_27 : decode cX9_barringLaw 27 = .ok (.ifCond .eq 40, 3) := by decide +kernel
theorem dX9_barringLaw_30 : decode cX9_barringLaw 30 = .ok (.iload_n 1, 1) := by decide +kernel
theorem dX9_barringLaw_31 : decode cX9_barringLaw 31 = .ok (.iload 4, 2) := by decide +kernel
theorem dX9_barringLaw_33 : decode cX9_barringLaw 33 = .ok (.ishr, 1) := by decide +kernel
theorem dX9_barringLaw_34 : decode cX9_barringLaw 34 = .ok (.iconst 1, 1) := by decide +kernel
theorem dX9_barringLaw_35 : decode cX9_barringLaw 35 = .ok (.iand, 1) := by decide +kernel
theorem dX9_barringLaw_36 : decode cX9_barringLaw 36 = .ok (.ifCond .eq 25, 3) := by decide +kernel
theorem dX9_barringLaw_39 : decode cX9_barringLaw 39 = .ok (.aload_n 0, 1) := by decide +kernel
theorem dX9_barringLaw_40 : decode cX9_barringLaw 40 = .ok (.iload 4, 2) := by decide +kernel
theorem dX9_barringLaw_42 : decode cX9_barringLaw 42 = .ok (.aaload, 1) := by decide +kernel
theorem dX9_barringLaw_43 : decode cX9_barringLaw 43 = .ok (.ifnull 18, 3) := by decide +kernel
theorem dX9_barringLaw_46 : decode cX9_barringLaw 46 = .ok (.aload_n 0, 1) := by decide +kernel
theorem dX9_barringLaw_47 : decode cX9_barringLaw 47 = .ok (.iload 4, 2) := by decide +kernel
theorem dX9_barringLaw_49 : decode cX9_barringLaw 49 = .ok (.aaload, 1) := by decide +kernel
theorem dX9_barringLaw_50 : decode cX9_barringLaw 50 = .ok (.aload_n 2, 1) := by decide +kernel
theorem dX9_barringLaw_51 : decode cX9_barringLaw 51 = .ok (.iload_n 3, 1) := by decide +kernel
theorem dX9_barringLaw_52 : decode cX9_barringLaw 52 = .ok (.invokevirtual 130, 3) := by decide +kernel
theorem dX9_barringLaw_55 : decode cX9_barringLaw 55 = .ok (.ifCond .le 6, 3) := by decide +kernel
theorem dX9_barringLaw_58 : decode cX9_barringLaw 58 = .ok (.iload 4, 2) := by decide +kernel
theorem dX9_barringLaw_60 : decode cX9_barringLaw 60 = .ok (.ireturn, 1) := by decide +kernel
theorem dX9_barringLaw_61 : decode cX9_barringLaw 61 = .ok (.iinc 4 1, 3) := by decide +kernel
theorem dX9_barringLaw_64 : decode cX9_barringLaw 64 = .ok (.goto (-48), 3) := by decide +kernel
theorem dX9_barringLaw_67 : decode cX9_barringLaw 67 = .ok (.iconst (-1), 1) := by decide +kernel
theorem dX9_barringLaw_68 : decode cX9_barringLaw 68 = .ok (.ireturn, 1) := by decide +kernel
theorem dX9_fillMap_0 : decode cX9_fillMap 0 = .ok (.aload_n 1, 1) := by decide +kernel
theorem dX9_fillMap_1 : decode cX9_fillMap 1 = .ok (.iload_n 2, 1) := by decide +kernel
theorem dX9_fillMap_2 : decode cX9_fillMap 2 = .ok (.putfield 202, 3) := by decide +kernel
theorem dX9_fillMap_5 : decode cX9_fillMap 5 = .ok (.iconst 0, 1) := by decide +kernel
theorem dX9_fillMap_6 : decode cX9_fillMap 6 = .ok (.istore 5, 2) := by decide +kernel
theorem dX9_fillMap_8 : decode cX9_fillMap 8 = .ok (.iload 5, 2) := by decide +kernel
theorem dX9_fillMap_10 : decode cX9_fillMap 10 = .ok (.iload_n 2, 1) := by decide +kernel
theorem dX9_fillMap_11 : decode cX9_fillMap 11 = .ok (.if_icmp .ge 32, 3) := by decide +kernel
theorem dX9_fillMap_14 : decode cX9_fillMap 14 = .ok (.aload_n 1, 1) := by decide +kernel
theorem dX9_fillMap_15 : decode cX9_fillMap 15 = .ok (.iload 5, 2) := by decide +kernel
theorem dX9_fillMap_17 : decode cX9_fillMap 17 = .ok (.aload_n 0, 1) := by decide +kernel
theorem dX9_fillMap_18 : decode cX9_fillMap 18 = .ok (.getfield 42, 3) := by decide +kernel
theorem dX9_fillMap_21 : decode cX9_fillMap 21 = .ok (.aload_n 3, 1) := by decide +kernel
theorem dX9_fillMap_22 : decode cX9_fillMap 22 = .ok (.iload 4, 2) := by decide +kernel
theorem dX9_fillMap_24 : decode cX9_fillMap 24 = .ok (.iload 5, 2) := by decide +kernel
theorem dX9_fillMap_26 : decode cX9_fillMap 26 = .ok (.iadd, 1) := by decide +kernel
theorem dX9_fillMap_27 : decode cX9_fillMap 27 = .ok (.aload_n 0, 1) := by decide +kernel
theorem dX9_fillMap_28 : decode cX9_fillMap 28 = .ok (.getfield 42, 3) := by decide +kernel
theorem dX9_fillMap_31 : decode cX9_fillMap 31 = .ok (.invokevirtual 189, 3) := by decide +kernel
theorem dX9_fillMap_34 : decode cX9_fillMap 34 = .ok (.invokevirtual 292, 3) := by decide +kernel
theorem dX9_fillMap_37 : decode cX9_fillMap 37 = .ok (.iinc 5 1, 3) := by decide +kernel
theorem dX9_fillMap_40 : decode cX9_fillMap 40 = .ok (.goto (-32), 3) := by decide +kernel
theorem dX9_fillMap_43 : decode cX9_fillMap 43 = .ok (.aload_n 1, 1) := by decide +kernel
theorem dX9_fillMap_44 : decode cX9_fillMap 44 = .ok (.invokevirtual 295, 3) := by decide +kernel
theorem dX9_fillMap_47 : decode cX9_fillMap 47 = .ok (.return_, 1) := by decide +kernel
theorem dX9_seekFailure_0 : decode cX9_seekFailure 0 = .ok (.aload_n 0, 1) := by decide +kernel
theorem dX9_seekFailure_1 : decode cX9_seekFailure 1 = .ok (.getfield 38, 3) := by decide +kernel
theorem dX9_seekFailure_4 : decode cX9_seekFailure 4 = .ok (.aload_n 0, 1) := by decide +kernel
theorem dX9_seekFailure_5 : decode cX9_seekFailure 5 = .ok (.getfield 32, 3) := by decide +kernel
theorem dX9_seekFailure_8 : decode cX9_seekFailure 8 = .ok (.iconst 1, 1) := by decide +kernel
theorem dX9_seekFailure_9 : decode cX9_seekFailure 9 = .ok (.aload_n 1, 1) := by decide +kernel
theorem dX9_seekFailure_10 : decode cX9_seekFailure 10 = .ok (.getfield 202, 3) := by decide +kernel
theorem dX9_seekFailure_13 : decode cX9_seekFailure 13 = .ok (.iload_n 2, 1) := by decide +kernel
theorem dX9_seekFailure_14 : decode cX9_seekFailure 14 = .ok (.invokevirtual 140, 3) := by decide +kernel
theorem dX9_seekFailure_17 : decode cX9_seekFailure 17 = .ok (.iconst 0, 1) := by decide +kernel
theorem dX9_seekFailure_18 : decode cX9_seekFailure 18 = .ok (.istore_n 3, 1) := by decide +kernel
theorem dX9_seekFailure_19 : decode cX9_seekFailure 19 = .ok (.iload_n 3, 1) := by decide +kernel
theorem dX9_seekFailure_20 : decode cX9_seekFailure 20 = .ok (.sipush 20000, 3) := by decide +kernel
theorem dX9_seekFailure_23 : decode cX9_seekFailure 23 = .ok (.if_icmp .gt 36, 3) := by decide +kernel
theorem dX9_seekFailure_26 : decode cX9_seekFailure 26 = .ok (.aload_n 0, 1) := by decide +kernel
theorem dX9_seekFailure_27 : decode cX9_seekFailure 27 = .ok (.getfield 38, 3) := by decide +kernel
theorem dX9_seekFailure_30 : decode cX9_seekFailure 30 = .ok (.invokevirtual 173, 3) := by decide +kernel
theorem dX9_seekFailure_33 : decode cX9_seekFailure 33 = .ok (.istore 4, 2) := by decide +kernel
theorem dX9_seekFailure_35 : decode cX9_seekFailure 35 = .ok (.iload 4, 2) := by decide +kernel
theorem dX9_seekFailure_37 : decode cX9_seekFailure 37 = .ok (.iconst 1, 1) := by decide +kernel
theorem dX9_seekFailure_38 : decode cX9_seekFailure 38 = .ok (.if_icmp .ne 12, 3) := by decide +kernel
theorem dX9_seekFailure_41 : decode cX9_seekFailure 41 = .ok (.aload_n 0, 1) := by decide +kernel
theorem dX9_seekFailure_42 : decode cX9_seekFailure 42 = .ok (.aload_n 1, 1) := by decide +kernel
theorem dX9_seekFailure_43 : decode cX9_seekFailure 43 = .ok (.iload_n 2, 1) := by decide +kernel
theorem dX9_seekFailure_44 : decode cX9_seekFailure 44 = .ok (.invokevirtual 298, 3) := by decide +kernel
theorem dX9_seekFailure_47 : decode cX9_seekFailure 47 = .ok (.ifCond .eq 6, 3) := by decide +kernel
theorem dX9_seekFailure_50 : decode cX9_seekFailure 50 = .ok (.iload 4, 2) := by decide +kernel
theorem dX9_seekFailure_52 : decode cX9_seekFailure 52 = .ok (.ireturn, 1) := by decide +kernel
theorem dX9_seekFailure_53 : decode cX9_seekFailure 53 = .ok (.iinc 3 1, 3) := by decide +kernel
theorem dX9_seekFailure_56 : decode cX9_seekFailure 56 = .ok (.goto (-37), 3) := by decide +kernel
theorem dX9_seekFailure_59 : decode cX9_seekFailure 59 = .ok (.iconst 0, 1) := by decide +kernel
theorem dX9_seekFailure_60 : decode cX9_seekFailure 60 = .ok (.ireturn, 1) := by decide +kernel
theorem dX9_isFailure_0 : decode cX9_isFailure 0 = .ok (.aload_n 1, 1) := by decide +kernel
theorem dX9_isFailure_1 : decode cX9_isFailure 1 = .ok (.aload_n 0, 1) := by decide +kernel
theorem dX9_isFailure_2 : decode cX9_isFailure 2 = .ok (.getfield 38, 3) := by decide +kernel
theorem dX9_isFailure_5 : decode cX9_isFailure 5 = .ok (.getfield 159, 3) := by decide +kernel
theorem dX9_isFailure_8 : decode cX9_isFailure 8 = .ok (.iload_n 2, 1) := by decide +kernel
theorem dX9_isFailure_9 : decode cX9_isFailure 9 = .ok (.aload_n 0, 1) := by decide +kernel
theorem dX9_isFailure_10 : decode cX9_isFailure 10 = .ok (.getfield 46, 3) := by decide +kernel
theorem dX9_isFailure_13 : decode cX9_isFailure 13 = .ok (.invokevirtual 205, 3) := by decide +kernel
theorem dX9_isFailure_16 : decode cX9_isFailure 16 = .ok (.istore_n 3, 1) := by decide +kernel
theorem dX9_isFailure_17 : decode cX9_isFailure 17 = .ok (.iload_n 3, 1) := by decide +kernel
theorem dX9_isFailure_18 : decode cX9_isFailure 18 = .ok (.aload_n 1, 1) := by decide +kernel
theorem dX9_isFailure_19 : decode cX9_isFailure 19 = .ok (.aload_n 0, 1) := by decide +kernel
theorem dX9_isFailure_20 : decode cX9_isFailure 20 = .ok (.getfield 38, 3) := by decide +kernel
theorem dX9_isFailure_23 : decode cX9_isFailure 23 = .ok (.getfield 159, 3) := by decide +kernel
theorem dX9_isFailure_26 : decode cX9_isFailure 26 = .ok (.iload_n 2, 1) := by decide +kernel
theorem dX9_isFailure_27 : decode cX9_isFailure 27 = .ok (.iconst 1, 1) := by decide +kernel
theorem dX9_isFailure_28 : decode cX9_isFailure 28 = .ok (.isub, 1) := by decide +kernel
theorem dX9_isFailure_29 : decode cX9_isFailure 29 = .ok (.iaload, 1) := by decide +kernel
theorem dX9_isFailure_30 : decode cX9_isFailure 30 = .ok (.invokevirtual 302, 3) := by decide +kernel
theorem dX9_isFailure_33 : decode cX9_isFailure 33 = .ok (.isub, 1) := by decide +kernel
theorem dX9_isFailure_34 : decode cX9_isFailure 34 = .ok (.istore 4, 2) := by decide +kernel
theorem dX9_isFailure_36 : decode cX9_isFailure 36 = .ok (.iload 4, 2) := by decide +kernel
theorem dX9_isFailure_38 : decode cX9_isFailure 38 = .ok (.iconst 1, 1) := by decide +kernel
theorem dX9_isFailure_39 : decode cX9_isFailure 39 = .ok (.iadd, 1) := by decide +kernel
theorem dX9_isFailure_40 : decode cX9_isFailure 40 = .ok (.istore 5, 2) := by decide +kernel
theorem dX9_isFailure_42 : decode cX9_isFailure 42 = .ok (.iload 5, 2) := by decide +kernel
theorem dX9_isFailure_44 : decode cX9_isFailure 44 = .ok (.iload_n 3, 1) := by decide +kernel
theorem dX9_isFailure_45 : decode cX9_isFailure 45 = .ok (.if_icmp .gt 29, 3) := by decide +kernel
theorem dX9_isFailure_48 : decode cX9_isFailure 48 = .ok (.aload_n 0, 1) := by decide +kernel
theorem dX9_isFailure_49 : decode cX9_isFailure 49 = .ok (.getfield 32, 3) := by decide +kernel
theorem dX9_isFailure_52 : decode cX9_isFailure 52 = .ok (.iconst 1, 1) := by decide +kernel
theorem dX9_isFailure_53 : decode cX9_isFailure 53 = .ok (.aload_n 0, 1) := by decide +kernel
theorem dX9_isFailure_54 : decode cX9_isFailure 54 = .ok (.getfield 46, 3) := by decide +kernel
theorem dX9_isFailure_57 : decode cX9_isFailure 57 = .ok (.iload 5, 2) := by decide +kernel
theorem dX9_isFailure_59 : decode cX9_isFailure 59 = .ok (.invokestatic 126, 3) := by decide +kernel
theorem dX9_isFailure_62 : decode cX9_isFailure 62 = .ok (.iconst (-1), 1) := by decide +kernel
theorem dX9_isFailure_63 : decode cX9_isFailure 63 = .ok (.if_icmp .eq 5, 3) := by decide +kernel
theorem dX9_isFailure_66 : decode cX9_isFailure 66 = .ok (.iconst 1, 1) := by decide +kernel
theorem dX9_isFailure_67 : decode cX9_isFailure 67 = .ok (.ireturn, 1) := by decide +kernel
theorem dX9_isFailure_68 : decode cX9_isFailure 68 = .ok (.iinc 5 1, 3) := by decide +kernel
theorem dX9_isFailure_71 : decode cX9_isFailure 71 = .ok (.goto (-29), 3) := by decide +kernel
theorem dX9_isFailure_74 : decode cX9_isFailure 74 = .ok (.iconst 0, 1) := by decide +kernel
theorem dX9_isFailure_75 : decode cX9_isFailure 75 = .ok (.ireturn, 1) := by decide +kernel
end
section
theorem dX10_thrown_0 : decode cX10_thrown 0 = .ok (.aload_n 0, 1) := by decide +kernel
theorem dX10_thrown_1 : decode cX10_thrown 1 = .ok (.getfield 1, 3) := by decide +kernel
theorem dX10_thrown_4 : decode cX10_thrown 4 = .ok (.ireturn, 1) := by decide +kernel
theorem dX10_may_0 : decode cX10_may 0 = .ok (.iload_n 1, 1) := by decide +kernel
theorem dX10_may_1 : decode cX10_may 1 = .ok (.ifCond .ne 15, 3) := by decide +kernel
theorem dX10_may_4 : decode cX10_may 4 = .ok (.aload_n 0, 1) := by decide +kernel
theorem dX10_may_5 : decode cX10_may 5 = .ok (.getfield 1, 3) := by decide +kernel
theorem dX10_may_8 : decode cX10_may 8 = .ok (.ifCond .ne 8, 3) := by decide +kernel
theorem dX10_may_11 : decode cX10_may 11 = .ok (.aload_n 0, 1) := by decide +kernel
theorem dX10_may_12 : decode cX10_may 12 = .ok (.iload_n 2, 1) := by decide +kernel
theorem dX10_may_13 : decode cX10_may 13 = .ok (.putfield 1, 3) := by decide +kernel
theorem dX10_may_16 : decode cX10_may 16 = .ok (.aload_n 0, 1) := by decide +kernel
theorem dX10_may_17 : decode cX10_may 17 = .ok (.getfield 1, 3) := by decide +kernel
theorem dX10_may_20 : decode cX10_may 20 = .ok (.ifCond .ne 7, 3) := by decide +kernel
theorem dX10_may_23 : decode cX10_may 23 = .ok (.iconst 1, 1) := by decide +kernel
theorem dX10_may_24 : decode cX10_may 24 = .ok (.goto 4, 3) := by decide +kernel
theorem dX10_may_27 : decode cX10_may 27 = .ok (.iconst 0, 1) := by decide +kernel
theorem dX10_may_28 : decode cX10_may 28 = .ok (.ireturn, 1) := by decide +kernel
theorem dX10_init_0 : decode cX10_init 0 = .ok (.aload_n 0, 1) := by decide +kernel
theorem dX10_init_1 : decode cX10_init 1 = .ok (.invokespecial 7, 3) := by decide +kernel
theorem dX10_init_4 : decode cX10_init 4 = .ok (.aload_n 0, 1) := by decide +kernel
theorem dX10_init_5 : decode cX10_init 5 = .ok (.bipush 16, 2) := by decide +kernel
theorem dX10_init_7 : decode cX10_init 7 = .ok (.newarray .int, 2) := by decide +kernel
theorem dX10_init_9 : decode cX10_init 9 = .ok (.putfield 13, 3) := by decide +kernel
theorem dX10_init_12 : decode cX10_init 12 = .ok (.aload_n 0, 1) := by decide +kernel
theorem dX10_init_13 : decode cX10_init 13 = .ok (.sipush 160, 3) := by decide +kernel
theorem dX10_init_16 : decode cX10_init 16 = .ok (.newarray .int, 2) := by decide +kernel
theorem dX10_init_18 : decode cX10_init 18 = .ok (.putfield 17, 3) := by decide +kernel
theorem dX10_init_21 : decode cX10_init 21 = .ok (.aload_n 0, 1) := by decide +kernel
theorem dX10_init_22 : decode cX10_init 22 = .ok (.sipush 12800, 3) := by decide +kernel
theorem dX10_init_25 : decode cX10_init 25 = .ok (.newarray .int, 2) := by decide +kernel
theorem dX10_init_27 : decode cX10_init 27 = .ok (.putfield 20, 3) := by decide +kernel
theorem dX10_init_30 : decode cX10_init 30 = .ok (.aload_n 0, 1) := by decide +kernel
theorem dX10_init_31 : decode cX10_init 31 = .ok (.bipush 80, 2) := by decide +kernel
theorem dX10_init_33 : decode cX10_init 33 = .ok (.newarray .int, 2) := by decide +kernel
theorem dX10_init_35 : decode cX10_init 35 = .ok (.putfield 23, 3) := by decide +kernel
theorem dX10_init_38 : decode cX10_init 38 = .ok (.aload_n 0, 1) := by decide +kernel
theorem dX10_init_39 : decode cX10_init 39 = .ok (.bipush 12, 2) := by decide +kernel
theorem dX10_init_41 : decode cX10_init 41 = .ok (.newarray .int, 2) := by decide +kernel
theorem dX10_init_43 : decode cX10_init 43 = .ok (.putfield 26, 3) := by decide +kernel
theorem dX10_init_46 : decode cX10_init 46 = .ok (.aload_n 0, 1) := by decide +kernel
theorem dX10_init_47 : decode cX10_init 47 = .ok (.bipush 12, 2) := by decide +kernel
theorem dX10_init_49 : decode cX10_init 49 = .ok (.newarray .int, 2) := by decide +kernel
theorem dX10_init_51 : decode cX10_init 51 = .ok (.putfield 29, 3) := by decide +kernel
theorem dX10_init_54 : decode cX10_init 54 = .ok (.aload_n 0, 1) := by decide +kernel
theorem dX10_init_55 : decode cX10_init 55 = .ok (.bipush 12, 2) := by decide +kernel
theorem dX10_init_57 : decode cX10_init 57 = .ok (.newarray .int, 2) := by decide +kernel
theorem dX10_init_59 : decode cX10_init 59 = .ok (.putfield 32, 3) := by decide +kernel
theorem dX10_init_62 : decode cX10_init 62 = .ok (.aload_n 0, 1) := by decide +kernel
theorem dX10_init_63 : decode cX10_init 63 = .ok (.bipush 12, 2) := by decide +kernel
theorem dX10_init_65 : decode cX10_init 65 = .ok (.newarray .int, 2) := by decide +kernel
theorem dX10_init_67 : decode cX10_init 67 = .ok (.putfield 35, 3) := by decide +kernel
theorem dX10_init_70 : decode cX10_init 70 = .ok (.aload_n 0, 1) := by decide +kernel
theorem dX10_init_71 : decode cX10_init 71 = .ok (.sipush 960, 3) := by decide +kernel
theorem dX10_init_74 : decode cX10_init 74 = .ok (.newarray .int, 2) := by decide +kernel
theorem dX10_init_76 : decode cX10_init 76 = .ok (.putfield 38, 3) := by decide +kernel
theorem dX10_init_79 : decode cX10_init 79 = .ok (.aload_n 0, 1) := by decide +kernel
theorem dX10_init_80 : decode cX10_init 80 = .ok (.bipush 8, 2) := by decide +kernel
theorem dX10_init_82 : decode cX10_init 82 = .ok (.newarray .int, 2) := by decide +kernel
theorem dX10_init_84 : decode cX10_init 84 = .ok (.putfield 41, 3) := by decide +kernel
theorem dX10_init_87 : decode cX10_init 87 = .ok (.aload_n 0, 1) := by decide +kernel
theorem dX10_init_88 : decode cX10_init 88 = .ok (.iconst 3, 1) := by decide +kernel
theorem dX10_init_89 : decode cX10_init 89 = .ok (.newarray .int, 2) := by decide +kernel
theorem dX10_init_91 : decode cX10_init 91 = .ok (.putfield 44, 3) := by decide +kernel
theorem dX10_init_94 : decode cX10_init 94 = .ok (.aload_n 0, 1) := by decide +kernel
theorem dX10_init_95 : decode cX10_init 95 = .ok (.iconst 3, 1) := by decide +kernel
theorem dX10_init_96 : decode cX10_init 96 = .ok (.newarray .int, 2) := by decide +kernel
theorem dX10_init_98 : decode cX10_init 98 = .ok (.putfield 47, 3) := by decide +kernel
theorem dX10_init_101 : decode cX10_init 101 = .ok (.aload_n 0, 1) := by decide +kernel
theorem dX10_init_102 : decode cX10_init 102 = .ok (.sipush 2000, 3) := by decide +kernel
theorem dX10_init_105 : decode cX10_init 105 = .ok (.newarray .int, 2) := by decide +kernel
theorem dX10_init_107 : decode cX10_init 107 = .ok (.putfield 50, 3) := by decide +kernel
theorem dX10_init_110 : decode cX10_init 110 = .ok (.aload_n 0, 1) := by decide +kernel
theorem dX10_init_111 : decode cX10_init 111 = .ok (.sipush 2000, 3) := by decide +kernel
theorem dX10_init_114 : decode cX10_init 114 = .ok (.newarray .int, 2) := by decide +kernel
theorem dX10_init_116 : decode cX10_init 116 = .ok (.putfield 53, 3) := by decide +kernel
theorem dX10_init_119 : decode cX10_init 119 = .ok (.aload_n 0, 1) := by decide +kernel
theorem dX10_init_120 : decode cX10_init 120 = .ok (.sipush 2000, 3) := by decide +kernel
theorem dX10_init_123 : decode cX10_init 123 = .ok (.newarray .int, 2) := by decide +kernel
theorem dX10_init_125 : decode cX10_init 125 = .ok (.putfield 56, 3) := by decide +kernel
theorem dX10_init_128 : decode cX10_init 128 = .ok (.aload_n 0, 1) := by decide +kernel
theorem dX10_init_129 : decode cX10_init 129 = .ok (.bipush 80, 2) := by decide +kernel
theorem dX10_init_131 : decode cX10_init 131 = .ok (.newarray .int, 2) := by decide +kernel
theorem dX10_init_133 : decode cX10_init 133 = .ok (.putfield 59, 3) := by decide +kernel
theorem dX10_init_136 : decode cX10_init 136 = .ok (.aload_n 0, 1) := by decide +kernel
theorem dX10_init_137 : decode cX10_init 137 = .ok (.bipush 80, 2) := by decide +kernel
theorem dX10_init_139 : decode cX10_init 139 = .ok (.newarray .int, 2) := by decide +kernel
theorem dX10_init_141 : decode cX10_init 141 = .ok (.putfield 62, 3) := by decide +kernel
theorem dX10_init_144 : decode cX10_init 144 = .ok (.aload_n 0, 1) := by decide +kernel
theorem dX10_init_145 : decode cX10_init 145 = .ok (.bipush 8, 2) := by decide +kernel
theorem dX10_init_147 : decode cX10_init 147 = .ok (.newarray .boolean, 2) := by decide +kernel
theorem dX10_init_149 : decode cX10_init 149 = .ok (.putfield 65, 3) := by decide +kernel
theorem dX10_init_152 : decode cX10_init 152 = .ok (.aload_n 0, 1) := by decide +kernel
theorem dX10_init_153 : decode cX10_init 153 = .ok (.bipush 8, 2) := by decide +kernel
theorem dX10_init_155 : decode cX10_init 155 = .ok (.newarray .int, 2) := by decide +kernel
theorem dX10_init_157 : decode cX10_init 157 = .ok (.putfield 69, 3) := by decide +kernel
theorem dX10_init_160 : decode cX10_init 160 = .ok (.aload_n 0, 1) := by decide +kernel
theorem dX10_init_161 : decode cX10_init 161 = .ok (.bipush 64, 2) := by decide +kernel
theorem dX10_init_163 : decode cX10_init 163 = .ok (.newarray .int, 2) := by decide +kernel
theorem dX10_init_165 : decode cX10_init 165 = .ok (.putfield 72, 3) := by decide +kernel
theorem dX10_init_168 : decode cX10_init 168 = .ok (.aload_n 0, 1) := by decide +kernel
theorem dX10_init_169 : decode cX10_init 169 = .ok (.sipush 1280, 3) := by decide +kernel
theorem dX10_init_172 : decode cX10_init 172 = .ok (.newarray .int, 2) := by decide +kernel
theorem dX10_init_174 : decode cX10_init 174 = .ok (.putfield 75, 3) := by decide +kernel
theorem dX10_init_177 : decode cX10_init 177 = .ok (.aload_n 0, 1) := by decide +kernel
theorem dX10_init_178 : decode cX10_init 178 = .ok (.sipush 1300, 3) := by decide +kernel
theorem dX10_init_181 : decode cX10_init 181 = .ok (.newarray .int, 2) := by decide +kernel
theorem dX10_init_183 : decode cX10_init 183 = .ok (.putfield 78, 3) := by decide +kernel
theorem dX10_init_186 : decode cX10_init 186 = .ok (.aload_n 0, 1) := by decide +kernel
theorem dX10_init_187 : decode cX10_init 187 = .ok (.sipush 320, 3) := by decide +kernel
theorem dX10_init_190 : decode cX10_init 190 = .ok (.newarray .long, 2) := by decide +kernel
theorem dX10_init_192 : decode cX10_init 192 = .ok (.putfield 81, 3) := by decide +kernel
theorem dX10_init_195 : decode cX10_init 195 = .ok (.aload_n 0, 1) := by decide +kernel
theorem dX10_init_196 : decode cX10_init 196 = .ok (.bipush 70, 2) := by decide +kernel
theorem dX10_init_198 : decode cX10_init 198 = .ok (.newarray .int, 2) := by decide +kernel
theorem dX10_init_200 : decode cX10_init 200 = .ok (.putfield 85, 3) := by decide +kernel
theorem dX10_init_203 : decode cX10_init 203 = .ok (.aload_n 0, 1) := by decide +kernel
theorem dX10_init_204 : decode cX10_init 204 = .ok (.bipush 10, 2) := by decide +kernel
theorem dX10_init_206 : decode cX10_init 206 = .ok (.newarray .int, 2) := by decide +kernel
theorem dX10_init_208 : decode cX10_init 208 = .ok (.putfield 88, 3) := by decide +kernel
theorem dX10_init_211 : decode cX10_init 211 = .ok (.aload_n 0, 1) := by decide +kernel
theorem dX10_init_212 : decode cX10_init 212 = .ok (.bipush 10, 2) := by decide +kernel
theorem dX10_init_214 : decode cX10_init 214 = .ok (.newarray .int, 2) := by decide +kernel
theorem dX10_init_216 : decode cX10_init 216 = .ok (.putfield 91, 3) := by decide +kernel
theorem dX10_init_219 : decode cX10_init 219 = .ok (.aload_n 0, 1) := by decide +kernel
theorem dX10_init_220 : decode cX10_init 220 = .ok (.bipush 6, 2) := by decide +kernel
theorem dX10_init_222 : decode cX10_init 222 = .ok (.newarray .int, 2) := by decide +kernel
theorem dX10_init_224 : decode cX10_init 224 = .ok (.putfield 94, 3) := by decide +kernel
theorem dX10_init_227 : decode cX10_init 227 = .ok (.aload_n 0, 1) := by decide +kernel
theorem dX10_init_228 : decode cX10_init 228 = .ok (.bipush 8, 2) := by decide +kernel
theorem dX10_init_230 : decode cX10_init 230 = .ok (.newarray .int, 2) := by decide +kernel
theorem dX10_init_232 : decode cX10_init 232 = .ok (.putfield 97, 3) := by decide +kernel
theorem dX10_init_235 : decode cX10_init 235 = .ok (.iconst 0, 1) := by decide +kernel
theorem dX10_init_236 : decode cX10_init 236 = .ok (.istore_n 1, 1) := by decide +kernel
theorem dX10_init_237 : decode cX10_init 237 = .ok (.iload_n 1, 1) := by decide +kernel
theorem dX10_init_238 : decode cX10_init 238 = .ok (.sipush 160, 3) := by decide +kernel
theorem dX10_init_241 : decode cX10_init 241 = .ok (.if_icmp .ge 16, 3) := by decide +kernel
theorem dX10_init_244 : decode cX10_init 244 = .ok (.aload_n 0, 1) := by decide +kernel
theorem dX10_init_245 : decode cX10_init 245 = .ok (.getfield 17, 3) := by decide +kernel
theorem dX10_init_248 : decode cX10_init 248 = .ok (.iload_n 1, 1) := by decide +kernel
theorem dX10_init_249 : decode cX10_init 249 = .ok (.iconst (-1), 1) := by decide +kernel
theorem dX10_init_250 : decode cX10_init 250 = .ok (.iastore, 1) := by decide +kernel
theorem dX10_init_251 : decode cX10_init 251 = .ok (.iinc 1 1, 3) := by decide +kernel
theorem dX10_init_254 : decode cX10_init 254 = .ok (.goto (-17), 3) := by decide +kernel
theorem dX10_init_257 : decode cX10_init 257 = .ok (.return_, 1) := by decide +kernel
theorem dX10_sheet_0 : decode cX10_sheet 0 = .ok (.aload_n 0, 1) := by decide +kernel
theorem dX10_sheet_1 : decode cX10_sheet 1 = .ok (.iconst 0, 1) := by decide +kernel
theorem dX10_sheet_2 : decode cX10_sheet 2 = .ok (.putfield 1, 3) := by decide +kernel
theorem dX10_sheet_5 : decode cX10_sheet 5 = .ok (.aload_n 0, 1) := by decide +kernel
theorem dX10_sheet_6 : decode cX10_sheet 6 = .ok (.iload_n 1, 1) := by decide +kernel
theorem dX10_sheet_7 : decode cX10_sheet 7 = .ok (.ifCond .lt 12, 3) := by decide +kernel
theorem dX10_sheet_10 : decode cX10_sheet 10 = .ok (.iload_n 1, 1) := by decide +kernel
theorem dX10_sheet_11 : decode cX10_sheet 11 = .ok (.iconst 2, 1) := by decide +kernel
theorem dX10_sheet_12 : decode cX10_sheet 12 = .ok (.if_icmp .gt 7, 3) := by decide +kernel
theorem dX10_sheet_15 : decode cX10_sheet 15 = .ok (.iconst 1, 1) := by decide +kernel
theorem dX10_sheet_16 : decode cX10_sheet 16 = .ok (.goto 4, 3) := by decide +kernel
theorem dX10_sheet_19 : decode cX10_sheet 19 = .ok (.iconst 0, 1) := by decide +kernel
theorem dX10_sheet_20 : decode cX10_sheet 20 = .ok (.iconst 1, 1) := by decide +kernel
theorem dX10_sheet_21 : decode cX10_sheet 21 = .ok (.invokevirtual 100, 3) := by decide +kernel
theorem dX10_sheet_24 : decode cX10_sheet 24 = .ok (.ifCond .eq 25, 3) := by decide +kernel
theorem dX10_sheet_27 : decode cX10_sheet 27 = .ok (.aload_n 0, 1) := by decide +kernel
theorem dX10_sheet_28 : decode cX10_sheet 28 = .ok (.aload_n 0, 1) := by decide +kernel
theorem dX10_sheet_29 : decode cX10_sheet 29 = .ok (.getfield 104, 3) := by decide +kernel
theorem dX10_sheet_32 : decode cX10_sheet 32 = .ok (.bipush 16, 2) := by decide +kernel
theorem dX10_sheet_34 : decode cX10_sheet 34 = .ok (.if_icmp .ge 7, 3) := by decide +kernel
theorem dX10_sheet_37 : decode cX10_sheet 37 = .ok (.iconst 1, 1) := by decide +kernel
theorem dX10_sheet_38 : decode cX10_sheet 38 = .ok (.goto 4, 3) := by decide +kernel
theorem dX10_sheet_41 : decode cX10_sheet 41 = .ok (.iconst 0, 1) := by decide +kernel
theorem dX10_sheet_42 : decode cX10_sheet 42 = .ok (.iconst 2, 1) := by decide +kernel
theorem dX10_sheet_43 : decode cX10_sheet 43 = .ok (.invokevirtual 100, 3) := by decide +kernel
theorem dX10_sheet_46 : decode cX10_sheet 46 = .ok (.ifCond .ne 5, 3) := by decide +kernel
theorem dX10_sheet_49 : decode cX10_sheet 49 = .ok (.iconst 0, 1) := by decide +kernel
theorem dX10_sheet_50 : decode cX10_sheet 50 = .ok (.ireturn, 1) := by decide +kernel
theorem dX10_sheet_51 : decode cX10_sheet 51 = .ok (.aload_n 0, 1) := by decide +kernel
theorem dX10_sheet_52 : decode cX10_sheet 52 = .ok (.getfield 13, 3) := by decide +kernel
theorem dX10_sheet_55 : decode cX10_sheet 55 = .ok (.aload_n 0, 1) := by decide +kernel
theorem dX10_sheet_56 : decode cX10_sheet 56 = .ok (.getfield 104, 3) := by decide +kernel
theorem dX10_sheet_59 : decode cX10_sheet 59 = .ok (.iload_n 1, 1) := by decide +kernel
theorem dX10_sheet_60 : decode cX10_sheet 60 = .ok (.iastore, 1) := by decide +kernel
theorem dX10_sheet_61 : decode cX10_sheet 61 = .ok (.aload_n 0, 1) := by decide +kernel
theorem dX10_sheet_62 : decode cX10_sheet 62 = .ok (.dup, 1) := by decide +kernel
theorem dX10_sheet_63 : decode cX10_sheet 63 = .ok (.getfield 104, 3) := by decide +kernel
theorem dX10_sheet_66 : decode cX10_sheet 66 = .ok (.iconst 1, 1) := by decide +kernel
theorem dX10_sheet_67 : decode cX10_sheet 67 = .ok (.iadd, 1) := by decide +kernel
theorem dX10_sheet_68 : decode cX10_sheet 68 = .ok (.putfield 104, 3) := by decide +kernel
theorem dX10_sheet_71 : decode cX10_sheet 71 = .ok (.aload_n 0, 1) := by decide +kernel
theorem dX10_sheet_72 : decode cX10_sheet 72 = .ok (.getfield 104, 3) := by decide +kernel
theorem dX10_sheet_75 : decode cX10_sheet 75 = .ok (.iconst 1, 1) := by decide +kernel
theorem dX10_sheet_76 : decode cX10_sheet 76 = .ok (.isub, 1) := by decide +kernel
theorem dX10_sheet_77 : decode cX10_sheet 77 = .ok (.ireturn, 1) := by decide +kernel
theorem dX10_isSheet_0 : decode cX10_isSheet 0 = .ok (.iload_n 1, 1) := by decide +kernel
theorem dX10_isSheet_1 : decode cX10_isSheet 1 = .ok (.ifCond .lt 15, 3) := by decide +kernel
theorem dX10_isSheet_4 : decode cX10_isSheet 4 = .ok (.iload_n 1, 1) := by decide +kernel
theorem dX10_isSheet_5 : decode cX10_isSheet 5 = .ok (.aload_n 0, 1) := by decide +kernel
theorem dX10_isSheet_6 : decode cX10_isSheet 6 = .ok (.getfield 104, 3) := by decide +kernel
theorem dX10_isSheet_9 : decode cX10_isSheet 9 = .ok (.if_icmp .ge 7, 3) := by decide +kernel
theorem dX10_isSheet_12 : decode cX10_isSheet 12 = .ok (.iconst 1, 1) := by decide +kernel
theorem dX10_isSheet_13 : decode cX10_isSheet 13 = .ok (.goto 4, 3) := by decide +kernel
theorem dX10_isSheet_16 : decode cX10_isSheet 16 = .ok (.iconst 0, 1) := by decide +kernel
theorem dX10_isSheet_17 : decode cX10_isSheet 17 = .ok (.ireturn, 1) := by decide +kernel
theorem dX10_isRow_0 : decode cX10_isRow 0 = .ok (.aload_n 0, 1) := by decide +kernel
theorem dX10_isRow_1 : decode cX10_isRow 1 = .ok (.aload_n 0, 1) := by decide +kernel
theorem dX10_isRow_2 : decode cX10_isRow 2 = .ok (.iload_n 1, 1) := by decide +kernel
theorem dX10_isRow_3 : decode cX10_isRow 3 = .ok (.invokevirtual 107, 3) := by decide +kernel
theorem dX10_isRow_6 : decode cX10_isRow 6 = .ok (.ifCond .eq 17, 3) := by decide +kernel
theorem dX10_isRow_9 : decode cX10_isRow 9 = .ok (.iload_n 2, 1) := by decide +kernel
theorem dX10_isRow_10 : decode cX10_isRow 10 = .ok (.ifCond .lt 13, 3) := by decide +kernel
theorem dX10_isRow_13 : decode cX10_isRow 13 = .ok (.iload_n 2, 1) := by decide +kernel
theorem dX10_isRow_14 : decode cX10_isRow 14 = .ok (.bipush 10, 2) := by decide +kernel
theorem dX10_isRow_16 : decode cX10_isRow 16 = .ok (.if_icmp .ge 7, 3) := by decide +kernel
theorem dX10_isRow_19 : decode cX10_isRow 19 = .ok (.iconst 1, 1) := by decide +kernel
theorem dX10_isRow_20 : decode cX10_isRow 20 = .ok (.goto 4, 3) := by decide +kernel
theorem dX10_isRow_23 : decode cX10_isRow 23 = .ok (.iconst 0, 1) := by decide +kernel
theorem dX10_isRow_24 : decode cX10_isRow 24 = .ok (.iload_n 3, 1) := by decide +kernel
theorem dX10_isRow_25 : decode cX10_isRow 25 = .ok (.invokevirtual 100, 3) := by decide +kernel
theorem dX10_isRow_28 : decode cX10_isRow 28 = .ok (.ireturn, 1) := by decide +kernel
theorem dX10_row_0 : decode cX10_row 0 = .ok (.aload_n 0, 1) := by decide +kernel
theorem dX10_row_1 : decode cX10_row 1 = .ok (.iconst 0, 1) := by decide +kernel
theorem dX10_row_2 : decode cX10_row 2 = .ok (.putfield 1, 3) := by decide +kernel
theorem dX10_row_5 : decode cX10_row 5 = .ok (.aload_n 0, 1) := by decide +kernel
theorem dX10_row_6 : decode cX10_row 6 = .ok (.iload_n 1, 1) := by decide +kernel
theorem dX10_row_7 : decode cX10_row 7 = .ok (.iload_n 2, 1) := by decide +kernel
theorem dX10_row_8 : decode cX10_row 8 = .ok (.iconst 1, 1) := by decide +kernel
theorem dX10_row_9 : decode cX10_row 9 = .ok (.invokevirtual 111, 3) := by decide +kernel
theorem dX10_row_12 : decode cX10_row 12 = .ok (.ifCond .ne 5, 3) := by decide +kernel
theorem dX10_row_15 : decode cX10_row 15 = .ok (.iconst 0, 1) := by decide +kernel
theorem dX10_row_16 : decode cX10_row 16 = .ok (.ireturn, 1) := by decide +kernel
theorem dX10_row_17 : decode cX10_row 17 = .ok (.iload_n 3, 1) := by decide +kernel
theorem dX10_row_18 : decode cX10_row 18 = .ok (.ifCond .lt 9, 3) := by decide +kernel
theorem dX10_row_21 : decode cX10_row 21 = .ok (.iload_n 3, 1) := by decide +kernel
theorem dX10_row_22 : decode cX10_row 22 = .ok (.bipush 80, 2) := by decide +kernel
theorem dX10_row_24 : decode cX10_row 24 = .ok (.if_icmp .le 5, 3) := by decide +kernel
theorem dX10_row_27 : decode cX10_row 27 = .ok (.iconst (-1), 1) := by decide +kernel
theorem dX10_row_28 : decode cX10_row 28 = .ok (.ireturn, 1) := by decide +kernel
theorem dX10_row_29 : decode cX10_row 29 = .ok (.bipush 10, 2) := by decide +kernel
theorem dX10_row_31 : decode cX10_row 31 = .ok (.iload_n 1, 1) := by decide +kernel
theorem dX10_row_32 : decode cX10_row 32 = .ok (.imul, 1) := by decide +kernel
theorem dX10_row_33 : decode cX10_row 33 = .ok (.iload_n 2, 1) := by decide +kernel
theorem dX10_row_34 : decode cX10_row 34 = .ok (.iadd, 1) := by decide +kernel
theorem dX10_row_35 : decode cX10_row 35 = .ok (.istore 4, 2) := by decide +kernel
theorem dX10_row_37 : decode cX10_row 37 = .ok (.aload_n 0, 1) := by decide +kernel
theorem dX10_row_38 : decode cX10_row 38 = .ok (.getfield 17, 3) := by decide +kernel
theorem dX10_row_41 : decode cX10_row 41 = .ok (.iload 4, 2) := by decide +kernel
theorem dX10_row_43 : decode cX10_row 43 = .ok (.iload_n 3, 1) := by decide +kernel
theorem dX10_row_44 : decode cX10_row 44 = .ok (.iastore, 1) := by decide +kernel
theorem dX10_row_45 : decode cX10_row 45 = .ok (.iconst 0, 1) := by decide +kernel
theorem dX10_row_46 : decode cX10_row 46 = .ok (.istore 5, 2) := by decide +kernel
theorem dX10_row_48 : decode cX10_row 48 = .ok (.iload 5, 2) := by decide +kernel
theorem dX10_row_50 : decode cX10_row 50 = .ok (.bipush 80, 2) := by decide +kernel
theorem dX10_row_52 : decode cX10_row 52 = .ok (.if_icmp .ge 23, 3) := by decide +kernel
theorem dX10_row_55 : decode cX10_row 55 = .ok (.aload_n 0, 1) := by decide +kernel
theorem dX10_row_56 : decode cX10_row 56 = .ok (.getfield 20, 3) := by decide +kernel
theorem dX10_row_59 : decode cX10_row 59 = .ok (.bipush 80, 2) := by decide +kernel
theorem dX10_row_61 : decode cX10_row 61 = .ok (.iload 4, 2) := by decide +kernel
theorem dX10_row_63 : decode cX10_row 63 = .ok (.imul, 1) := by decide +kernel
theorem dX10_row_64 : decode cX10_row 64 = .ok (.iload 5, 2) := by decide +kernel
theorem dX10_row_66 : decode cX10_row 66 = .ok (.iadd, 1) := by decide +kernel
theorem dX10_row_67 : decode cX10_row 67 = .ok (.iconst 0, 1) := by decide +kernel
theorem dX10_row_68 : decode cX10_row 68 = .ok (.iastore, 1) := by decide +kernel
theorem dX10_row_69 : decode cX10_row 69 = .ok (.iinc 5 1, 3) := by decide +kernel
theorem dX10_row_72 : decode cX10_row 72 = .ok (.goto (-24), 3) := by decide +kernel
theorem dX10_row_75 : decode cX10_row 75 = .ok (.iload_n 3, 1) := by decide +kernel
theorem dX10_row_76 : decode cX10_row 76 = .ok (.ireturn, 1) := by decide +kernel
theorem dX10_put_0 : decode cX10_put 0 = .ok (.aload_n 0, 1) := by decide +kernel
theorem dX10_put_1 : decode cX10_put 1 = .ok (.iconst 0, 1) := by decide +kernel
theorem dX10_put_2 : decode cX10_put 2 = .ok (.putfield 1, 3) := by decide +kernel
theorem dX10_put_5 : decode cX10_put 5 = .ok (.aload_n 0, 1) := by decide +kernel
theorem dX10_put_6 : decode cX10_put 6 = .ok (.iload_n 1, 1) := by decide +kernel
theorem dX10_put_7 : decode cX10_put 7 = .ok (.iload_n 2, 1) := by decide +kernel
theorem dX10_put_8 : decode cX10_put 8 = .ok (.iconst 1, 1) := by decide +kernel
theorem dX10_put_9 : decode cX10_put 9 = .ok (.invokevirtual 111, 3) := by decide +kernel
theorem dX10_put_12 : decode cX10_put 12 = .ok (.ifCond .ne 5, 3) := by decide +kernel
theorem dX10_put_15 : decode cX10_put 15 = .ok (.iconst 0, 1) := by decide +kernel
theorem dX10_put_16 : decode cX10_put 16 = .ok (.ireturn, 1) := by decide +kernel
theorem dX10_put_17 : decode cX10_put 17 = .ok (.bipush 10, 2) := by decide +kernel
theorem dX10_put_19 : decode cX10_put 19 = .ok (.iload_n 1, 1) := by decide +kernel
theorem dX10_put_20 : decode cX10_put 20 = .ok (.imul, 1) := by decide +kernel
theorem dX10_put_21 : decode cX10_put 21 = .ok (.iload_n 2, 1) := by decide +kernel
theorem dX10_put_22 : decode cX10_put 22 = .ok (.iadd, 1) := by decide +kernel
theorem dX10_put_23 : decode cX10_put 23 = .ok (.istore 5, 2) := by decide +kernel
theorem dX10_put_25 : decode cX10_put 25 = .ok (.aload_n 0, 1) := by decide +kernel
theorem dX10_put_26 : decode cX10_put 26 = .ok (.getfield 17, 3) := by decide +kernel
theorem dX10_put_29 : decode cX10_put 29 = .ok (.iload 5, 2) := by decide +kernel
theorem dX10_put_31 : decode cX10_put 31 = .ok (.iaload, 1) := by decide +kernel
theorem dX10_put_32 : decode cX10_put 32 = .ok (.iconst (-1), 1) := by decide +kernel
theorem dX10_put_33 : decode cX10_put 33 = .ok (.if_icmp .ne 5, 3) := by decide +kernel
theorem dX10_put_36 : decode cX10_put 36 = .ok (.iconst (-1), 1) := by decide +kernel
theorem dX10_put_37 : decode cX10_put 37 = .ok (.ireturn, 1) := by decide +kernel
theorem dX10_put_38 : decode cX10_put 38 = .ok (.iload_n 3, 1) := by decide +kernel
theorem dX10_put_39 : decode cX10_put 39 = .ok (.ifCond .lt 14, 3) := by decide +kernel
theorem dX10_put_42 : decode cX10_put 42 = .ok (.iload_n 3, 1) := by decide +kernel
theorem dX10_put_43 : decode cX10_put 43 = .ok (.aload_n 0, 1) := by decide +kernel
theorem dX10_put_44 : decode cX10_put 44 = .ok (.getfield 17, 3) := by decide +kernel
theorem dX10_put_47 : decode cX10_put 47 = .ok (.iload 5, 2) := by decide +kernel
theorem dX10_put_49 : decode cX10_put 49 = .ok (.iaload, 1) := by decide +kernel
theorem dX10_put_50 : decode cX10_put 50 = .ok (.if_icmp .lt 6, 3) := by decide +kernel
theorem dX10_put_53 : decode cX10_put 53 = .ok (.bipush (-2), 2) := by decide +kernel
theorem dX10_put_55 : decode cX10_put 55 = .ok (.ireturn, 1) := by decide +kernel
theorem dX10_put_56 : decode cX10_put 56 = .ok (.aload_n 0, 1) := by decide +kernel
theorem dX10_put_57 : decode cX10_put 57 = .ok (.getfield 20, 3) := by decide +kernel
theorem dX10_put_60 : decode cX10_put 60 = .ok (.bipush 80, 2) := by decide +kernel
theorem dX10_put_62 : decode cX10_put 62 = .ok (.iload 5, 2) := by decide +kernel
theorem dX10_put_64 : decode cX10_put 64 = .ok (.imul, 1) := by decide +kernel
theorem dX10_put_65 : decode cX10_put 65 = .ok (.iload_n 3, 1) := by decide +kernel
theorem dX10_put_66 : decode cX10_put 66 = .ok (.iadd, 1) := by decide +kernel
theorem dX10_put_67 : decode cX10_put 67 = .ok (.aload_n 0, 1) := by decide +kernel
theorem dX10_put_68 : decode cX10_put 68 = .ok (.getfield 13, 3) := by decide +kernel
theorem dX10_put_71 : decode cX10_put 71 = .ok (.iload_n 1, 1) := by decide +kernel
theorem dX10_put_72 : decode cX10_put 72 = .ok (.iaload, 1) := by decide +kernel
theorem dX10_put_73 : decode cX10_put 73 = .ok (.ifCond .ne 9, 3) := by decide +kernel
theorem dX10_put_76 : decode cX10_put 76 = .ok (.iload 4, 2) := by decide +kernel
theorem dX10_put_78 : decode cX10_put 78 = .ok (.i2b, 1) := by decide +kernel
theorem dX10_put_79 : decode cX10_put 79 = .ok (.goto 21, 3) := by decide +kernel
theorem dX10_put_82 : decode cX10_put 82 = .ok (.aload_n 0, 1) := by decide +kernel
theorem dX10_put_83 : decode cX10_put 83 = .ok (.getfield 13, 3) := by decide +kernel
theorem dX10_put_86 : decode cX10_put 86 = .ok (.iload_n 1, 1) := by decide +kernel
theorem dX10_put_87 : decode cX10_put 87 = .ok (.iaload, 1) := by decide +kernel
theorem dX10_put_88 : decode cX10_put 88 = .ok (.iconst 1, 1) := by decide +kernel
theorem dX10_put_89 : decode cX10_put 89 = .ok (.if_icmp .ne 9, 3) := by decide +kernel
theorem dX10_put_92 : decode cX10_put 92 = .ok (.iload 4, 2) := by decide +kernel
theorem dX10_put_94 : decode cX10_put 94 = .ok (.i2s, 1) := by decide +kernel
theorem dX10_put_95 : decode cX10_put 95 = .ok (.goto 5, 3) := by decide +kernel
theorem dX10_put_98 : decode cX10_put 98 = .ok (.iload 4, 2) := by decide +kernel
theorem dX10_put_100 : decode cX10_put 100 = .ok (.iastore, 1) := by decide +kernel
theorem dX10_put_101 : decode cX10_put 101 = .ok (.iconst 1, 1) := by decide +kernel
theorem dX10_put_102 : decode cX10_put 102 = .ok (.ireturn, 1) := by decide +kernel
theorem dX10_tear_0 : decode cX10_tear 0 = .ok (.aload_n 0, 1) := by decide +kernel
theorem dX10_tear_1 : decode cX10_tear 1 = .ok (.iconst 0, 1) := by decide +kernel
theorem dX10_tear_2 : decode cX10_tear 2 = .ok (.putfield 1, 3) := by decide +kernel
theorem dX10_tear_5 : decode cX10_tear 5 = .ok (.aload_n 0, 1) := by decide +kernel
theorem dX10_tear_6 : decode cX10_tear 6 = .ok (.iload_n 1, 1) := by decide +kernel
theorem dX10_tear_7 : decode cX10_tear 7 = .ok (.iload_n 2, 1) := by decide +kernel
theorem dX10_tear_8 : decode cX10_tear 8 = .ok (.iconst 1, 1) := by decide +kernel
theorem dX10_tear_9 : decode cX10_tear 9 = .ok (.invokevirtual 111, 3) := by decide +kernel
theorem dX10_tear_12 : decode cX10_tear 12 = .ok (.ifCond .ne 5, 3) := by decide +kernel
theorem dX10_tear_15 : decode cX10_tear 15 = .ok (.iconst 0, 1) := by decide +kernel
theorem dX10_tear_16 : decode cX10_tear 16 = .ok (.ireturn, 1) := by decide +kernel
theorem dX10_tear_17 : decode cX10_tear 17 = .ok (.aload_n 0, 1) := by decide +kernel
theorem dX10_tear_18 : decode cX10_tear 18 = .ok (.getfield 17, 3) := by decide +kernel
theorem dX10_tear_21 : decode cX10_tear 21 = .ok (.bipush 10, 2) := by decide +kernel
theorem dX10_tear_23 : decode cX10_tear 23 = .ok (.iload_n 1, 1) := by decide +kernel
theorem dX10_tear_24 : decode cX10_tear 24 = .ok (.imul, 1) := by decide +kernel
theorem dX10_tear_25 : decode cX10_tear 25 = .ok (.iload_n 2, 1) := by decide +kernel
theorem dX10_tear_26 : decode cX10_tear 26 = .ok (.iadd, 1) := by decide +kernel
theorem dX10_tear_27 : decode cX10_tear 27 = .ok (.iaload, 1) := by decide +kernel
theorem dX10_tear_28 : decode cX10_tear 28 = .ok (.istore_n 3, 1) := by decide +kernel
theorem dX10_tear_29 : decode cX10_tear 29 = .ok (.aload_n 0, 1) := by decide +kernel
theorem dX10_tear_30 : decode cX10_tear 30 = .ok (.getfield 17, 3) := by decide +kernel
theorem dX10_tear_33 : decode cX10_tear 33 = .ok (.bipush 10, 2) := by decide +kernel
theorem dX10_tear_35 : decode cX10_tear 35 = .ok (.iload_n 1, 1) := by decide +kernel
theorem dX10_tear_36 : decode cX10_tear 36 = .ok (.imul, 1) := by decide +kernel
theorem dX10_tear_37 : decode cX10_tear 37 = .ok (.iload_n 2, 1) := by decide +kernel
theorem dX10_tear_38 : decode cX10_tear 38 = .ok (.iadd, 1) := by decide +kernel
theorem dX10_tear_39 : decode cX10_tear 39 = .ok (.iconst (-1), 1) := by decide +kernel
theorem dX10_tear_40 : decode cX10_tear 40 = .ok (.iastore, 1) := by decide +kernel
theorem dX10_tear_41 : decode cX10_tear 41 = .ok (.iload_n 3, 1) := by decide +kernel
theorem dX10_tear_42 : decode cX10_tear 42 = .ok (.ireturn, 1) := by decide +kernel
theorem dX10_reads_0 : decode cX10_reads 0 = .ok (.bipush 10, 2) := by decide +kernel
theorem dX10_reads_2 : decode cX10_reads 2 = .ok (.iload_n 1, 1) := by decide +kernel
theorem dX10_reads_3 : decode cX10_reads 3 = .ok (.imul, 1) := by decide +kernel
theorem dX10_reads_4 : decode cX10_reads 4 = .ok (.iload_n 2, 1) := by decide +kernel
theorem dX10_reads_5 : decode cX10_reads 5 = .ok (.iadd, 1) := by decide +kernel
theorem dX10_reads_6 : decode cX10_reads 6 = .ok (.istore_n 3, 1) := by decide +kernel
theorem dX10_reads_7 : decode cX10_reads 7 = .ok (.aload_n 0, 1) := by decide +kernel
theorem dX10_reads_8 : decode cX10_reads 8 = .ok (.getfield 17, 3) := by decide +kernel
theorem dX10_reads_11 : decode cX10_reads 11 = .ok (.iload_n 3, 1) := by decide +kernel
theorem dX10_reads_12 : decode cX10_reads 12 = .ok (.iaload, 1) := by decide +kernel
theorem dX10_reads_13 : decode cX10_reads 13 = .ok (.iconst (-1), 1) := by decide +kernel
theorem dX10_reads_14 : decode cX10_reads 14 = .ok (.if_icmp .ne 7, 3) := by decide +kernel
theorem dX10_reads_17 : decode cX10_reads 17 = .ok (.iconst 0, 1) := by decide +kernel
theorem dX10_reads_18 : decode cX10_reads 18 = .ok (.goto 9, 3) := by decide +kernel
theorem dX10_reads_21 : decode cX10_reads 21 = .ok (.aload_n 0, 1) := by decide +kernel
theorem dX10_reads_22 : decode cX10_reads 22 = .ok (.getfield 17, 3) := by decide +kernel
theorem dX10_reads_25 : decode cX10_reads 25 = .ok (.iload_n 3, 1) := by decide +kernel
theorem dX10_reads_26 : decode cX10_reads 26 = .ok (.iaload, 1) := by decide +kernel
theorem dX10_reads_27 : decode cX10_reads 27 = .ok (.istore 4, 2) := by decide +kernel
theorem dX10_reads_29 : decode cX10_reads 29 = .ok (.aload_n 0, 1) := by decide +kernel
theorem dX10_reads_30 : decode cX10_reads 30 = .ok (.iload 4, 2) := by decide +kernel
theorem dX10_reads_32 : decode cX10_reads 32 = .ok (.bipush 60, 2) := by decide +kernel
theorem dX10_reads_34 : decode cX10_reads 34 = .ok (.if_icmp .le 7, 3) := by decide +kernel
theorem dX10_reads_37 : decode cX10_reads 37 = .ok (.iconst (-1), 1) := by decide +kernel
theorem dX10_reads_38 : decode cX10_reads 38 = .ok (.goto 5, 3) := by decide +kernel
theorem dX10_reads_41 : decode cX10_reads 41 = .ok (.iload 4, 2) := by decide +kernel
theorem dX10_reads_43 : decode cX10_reads 43 = .ok (.putfield 115, 3) := by decide +kernel
theorem dX10_reads_46 : decode cX10_reads 46 = .ok (.iconst 0, 1) := by decide +kernel
theorem dX10_reads_47 : decode cX10_reads 47 = .ok (.istore 5, 2) := by decide +kernel
theorem dX10_reads_49 : decode cX10_reads 49 = .ok (.iload 5, 2) := by decide +kernel
theorem dX10_reads_51 : decode cX10_reads 51 = .ok (.iload 4, 2) := by decide +kernel
theorem dX10_reads_53 : decode cX10_reads 53 = .ok (.if_icmp .ge 63, 3) := by decide +kernel
theorem dX10_reads_56 : decode cX10_reads 56 = .ok (.aload_n 0, 1) := by decide +kernel
theorem dX10_reads_57 : decode cX10_reads 57 = .ok (.getfield 115, 3) := by decide +kernel
theorem dX10_reads_60 : decode cX10_reads 60 = .ok (.iconst (-1), 1) := by decide +kernel
theorem dX10_reads_61 : decode cX10_reads 61 = .ok (.if_icmp .eq 55, 3) := by decide +kernel
theorem dX10_reads_64 : decode cX10_reads 64 = .ok (.aload_n 0, 1) := by decide +kernel
theorem dX10_reads_65 : decode cX10_reads 65 = .ok (.getfield 23, 3) := by decide +kernel
theorem dX10_reads_68 : decode cX10_reads 68 = .ok (.iload 5, 2) := by decide +kernel
theorem dX10_reads_70 : decode cX10_reads 70 = .ok (.aload_n 0, 1) := by decide +kernel
theorem dX10_reads_71 : decode cX10_reads 71 = .ok (.getfield 20, 3) := by decide +kernel
theorem dX10_reads_74 : decode cX10_reads 74 = .ok (.bipush 80, 2) := by decide +kernel
theorem dX10_reads_76 : decode cX10_reads 76 = .ok (.iload_n 3, 1) := by decide +kernel
theorem dX10_reads_77 : decode cX10_reads 77 = .ok (.imul, 1) := by decide +kernel
theorem dX10_reads_78 : decode cX10_reads 78 = .ok (.iload 5, 2) := by decide +kernel
theorem dX10_reads_80 : decode cX10_reads 80 = .ok (.iadd, 1) := by decide +kernel
theorem dX10_reads_81 : decode cX10_reads 81 = .ok (.iaload, 1) := by decide +kernel
theorem dX10_reads_82 : decode cX10_reads 82 = .ok (.iastore, 1) := by decide +kernel
theorem dX10_reads_83 : decode cX10_reads 83 = .ok (.aload_n 0, 1) := by decide +kernel
theorem dX10_reads_84 : decode cX10_reads 84 = .ok (.getfield 23, 3) := by decide +kernel
theorem dX10_reads_87 : decode cX10_reads 87 = .ok (.iload 5, 2) := by decide +kernel
theorem dX10_reads_89 : decode cX10_reads 89 = .ok (.iaload, 1) := by decide +kernel
theorem dX10_reads_90 : decode cX10_reads 90 = .ok (.ifCond .lt 15, 3) := by decide +kernel
theorem dX10_reads_93 : decode cX10_reads 93 = .ok (.aload_n 0, 1) := by decide +kernel
theorem dX10_reads_94 : decode cX10_reads 94 = .ok (.getfield 23, 3) := by decide +kernel
theorem dX10_reads_97 : decode cX10_reads 97 = .ok (.iload 5, 2) := by decide +kernel
theorem dX10_reads_99 : decode cX10_reads 99 = .ok (.iaload, 1) := by decide +kernel
theorem dX10_reads_100 : decode cX10_reads 100 = .ok (.bipush 7, 2) := by decide +kernel
theorem dX10_reads_102 : decode cX10_reads 102 = .ok (.if_icmp .le 8, 3) := by decide +kernel
theorem dX10_reads_105 : decode cX10_reads 105 = .ok (.aload_n 0, 1) := by decide +kernel
theorem dX10_reads_106 : decode cX10_reads 106 = .ok (.iconst (-1), 1) := by decide +kernel
theorem dX10_reads_107 : decode cX10_reads 107 = .ok (.putfield 115, 3) := by decide +kernel
theorem dX10_reads_110 : decode cX10_reads 110 = .ok (.iinc 5 1, 3) := by decide +kernel
theorem dX10_reads_113 : decode cX10_reads 113 = .ok (.goto (-64), 3) := by decide +kernel
theorem dX10_reads_116 : decode cX10_reads 116 = .ok (.aload_n 0, 1) := by decide +kernel
theorem dX10_reads_117 : decode cX10_reads 117 = .ok (.getfield 115, 3) := by decide +kernel
theorem dX10_reads_120 : decode cX10_reads 120 = .ok (.iconst (-1), 1) := by decide +kernel
theorem dX10_reads_121 : decode cX10_reads 121 = .ok (.if_icmp .eq 7, 3) := by decide +kernel
theorem dX10_reads_124 : decode cX10_reads 124 = .ok (.iconst 1, 1) := by decide +kernel
theorem dX10_reads_125 : decode cX10_reads 125 = .ok (.goto 4, 3) := by decide +kernel
theorem dX10_reads_128 : decode cX10_reads 128 = .ok (.iconst 0, 1) := by decide +kernel
theorem dX10_reads_129 : decode cX10_reads 129 = .ok (.ireturn, 1) := by decide +kernel
theorem dX10_word_0 : decode cX10_word 0 = .ok (.aload_n 0, 1) := by decide +kernel
theorem dX10_word_1 : decode cX10_word 1 = .ok (.iconst 0, 1) := by decide +kernel
theorem dX10_word_2 : decode cX10_word 2 = .ok (.putfield 1, 3) := by decide +kernel
theorem dX10_word_5 : decode cX10_word 5 = .ok (.aload_n 0, 1) := by decide +kernel
theorem dX10_word_6 : decode cX10_word 6 = .ok (.iload_n 1, 1) := by decide +kernel
theorem dX10_word_7 : decode cX10_word 7 = .ok (.iload_n 2, 1) := by decide +kernel
theorem dX10_word_8 : decode cX10_word 8 = .ok (.iconst 1, 1) := by decide +kernel
theorem dX10_word_9 : decode cX10_word 9 = .ok (.invokevirtual 111, 3) := by decide +kernel
theorem dX10_word_12 : decode cX10_word 12 = .ok (.ifCond .ne 5, 3) := by decide +kernel
theorem dX10_word_15 : decode cX10_word 15 = .ok (.iconst 0, 1) := by decide +kernel
theorem dX10_word_16 : decode cX10_word 16 = .ok (.ireturn, 1) := by decide +kernel
theorem dX10_word_17 : decode cX10_word 17 = .ok (.aload_n 0, 1) := by decide +kernel
theorem dX10_word_18 : decode cX10_word 18 = .ok (.iload_n 1, 1) := by decide +kernel
theorem dX10_word_19 : decode cX10_word 19 = .ok (.iload_n 2, 1) := by decide +kernel
theorem dX10_word_20 : decode cX10_word 20 = .ok (.invokevirtual 118, 3) := by decide +kernel
theorem dX10_word_23 : decode cX10_word 23 = .ok (.ifCond .eq 10, 3) := by decide +kernel
theorem dX10_word_26 : decode cX10_word 26 = .ok (.aload_n 0, 1) := by decide +kernel
theorem dX10_word_27 : decode cX10_word 27 = .ok (.getfield 115, 3) := by decide +kernel
theorem dX10_word_30 : decode cX10_word 30 = .ok (.goto 4, 3) := by decide +kernel
theorem dX10_word_33 : decode cX10_word 33 = .ok (.iconst (-1), 1) := by decide +kernel
theorem dX10_word_34 : decode cX10_word 34 = .ok (.ireturn, 1) := by decide +kernel
theorem dX10_letter_0 : decode cX10_letter 0 = .ok (.aload_n 0, 1) := by decide +kernel
theorem dX10_letter_1 : decode cX10_letter 1 = .ok (.iconst 0, 1) := by decide +kernel
theorem dX10_letter_2 : decode cX10_letter 2 = .ok (.putfield 1, 3) := by decide +kernel
theorem dX10_letter_5 : decode cX10_letter 5 = .ok (.aload_n 0, 1) := by decide +kernel
theorem dX10_letter_6 : decode cX10_letter 6 = .ok (.iload_n 1, 1) := by decide +kernel
theorem dX10_letter_7 : decode cX10_letter 7 = .ok (.iload_n 2, 1) := by decide +kernel
theorem dX10_letter_8 : decode cX10_letter 8 = .ok (.iconst 1, 1) := by decide +kernel
theorem dX10_letter_9 : decode cX10_letter 9 = .ok (.invokevirtual 111, 3) := by decide +kernel
theorem dX10_letter_12 : decode cX10_letter 12 = .ok (.ifCond .ne 5, 3) := by decide +kernel
theorem dX10_letter_15 : decode cX10_letter 15 = .ok (.iconst 0, 1) := by decide +kernel
theorem dX10_letter_16 : decode cX10_letter 16 = .ok (.ireturn, 1) := by decide +kernel
theorem dX10_letter_17 : decode cX10_letter 17 = .ok (.aload_n 0, 1) := by decide +kernel
theorem dX10_letter_18 : decode cX10_letter 18 = .ok (.iload_n 1, 1) := by decide +kernel
theorem dX10_letter_19 : decode cX10_letter 19 = .ok (.iload_n 2, 1) := by decide +kernel
theorem dX10_letter_20 : decode cX10_letter 20 = .ok (.invokevirtual 118, 3) := by decide +kernel
theorem dX10_letter_23 : decode cX10_letter 23 = .ok (.ifCond .eq 24, 3) := by decide +kernel
theorem dX10_letter_26 : decode cX10_letter 26 = .ok (.iload_n 3, 1) := by decide +kernel
theorem dX10_letter_27 : decode cX10_letter 27 = .ok (.ifCond .lt 20, 3) := by decide +kernel
theorem dX10_letter_30 : decode cX10_letter 30 = .ok (.iload_n 3, 1) := by decide +kernel
theorem dX10_letter_31 : decode cX10_letter 31 = .ok (.aload_n 0, 1) := by decide +kernel
theorem dX10_letter_32 : decode cX10_letter 32 = .ok (.getfield 115, 3) := by decide +kernel
theorem dX10_letter_35 : decode cX10_letter 35 = .ok (.if_icmp .ge 12, 3) := by decide +kernel
theorem dX10_letter_38 : decode cX10_letter 38 = .ok (.aload_n 0, 1) := by decide +kernel
theorem dX10_letter_39 : decode cX10_letter 39 = .ok (.getfield 23, 3) := by decide +kernel
theorem dX10_letter_42 : decode cX10_letter 42 = .ok (.iload_n 3, 1) := by decide +kernel
theorem dX10_letter_43 : decode cX10_letter 43 = .ok (.iaload, 1) := by decide +kernel
theorem dX10_letter_44 : decode cX10_letter 44 = .ok (.goto 4, 3) := by decide +kernel
theorem dX10_letter_47 : decode cX10_letter 47 = .ok (.iconst (-1), 1) := by decide +kernel
theorem dX10_letter_48 : decode cX10_letter 48 = .ok (.ireturn, 1) := by decide +kernel
theorem dX10_write_0 : decode cX10_write 0 = .ok (.bipush 10, 2) := by decide +kernel
theorem dX10_write_2 : decode cX10_write 2 = .ok (.iload_n 1, 1) := by decide +kernel
theorem dX10_write_3 : decode cX10_write 3 = .ok (.imul, 1) := by decide +kernel
theorem dX10_write_4 : decode cX10_write 4 = .ok (.istore 4, 2) := by decide +kernel
theorem dX10_write_6 : decode cX10_write 6 = .ok (.aload_n 0, 1) := by decide +kernel
theorem dX10_write_7 : decode cX10_write 7 = .ok (.getfield 17, 3) := by decide +kernel
theorem dX10_write_10 : decode cX10_write 10 = .ok (.iload 4, 2) := by decide +kernel
theorem dX10_write_12 : decode cX10_write 12 = .ok (.iload_n 3, 1) := by decide +kernel
theorem dX10_write_13 : decode cX10_write 13 = .ok (.iastore, 1) := by decide +kernel
theorem dX10_write_14 : decode cX10_write 14 = .ok (.iconst 0, 1) := by decide +kernel
theorem dX10_write_15 : decode cX10_write 15 = .ok (.istore 5, 2) := by decide +kernel
theorem dX10_write_17 : decode cX10_write 17 = .ok (.iload 5, 2) := by decide +kernel
theorem dX10_write_19 : decode cX10_write 19 = .ok (.bipush 80, 2) := by decide +kernel
theorem dX10_write_21 : decode cX10_write 21 = .ok (.if_icmp .ge 36, 3) := by decide +kernel
theorem dX10_write_24 : decode cX10_write 24 = .ok (.aload_n 0, 1) := by decide +kernel
theorem dX10_write_25 : decode cX10_write 25 = .ok (.getfield 20, 3) := by decide +kernel
theorem dX10_write_28 : decode cX10_write 28 = .ok (.bipush 80, 2) := by decide +kernel
theorem dX10_write_30 : decode cX10_write 30 = .ok (.iload 4, 2) := by decide +kernel
theorem dX10_write_32 : decode cX10_write 32 = .ok (.imul, 1) := by decide +kernel
theorem dX10_write_33 : decode cX10_write 33 = .ok (.iload 5, 2) := by decide +kernel
theorem dX10_write_35 : decode cX10_write 35 = .ok (.iadd, 1) := by decide +kernel
theorem dX10_write_36 : decode cX10_write 36 = .ok (.iload 5, 2) := by decide +kernel
theorem dX10_write_38 : decode cX10_write 38 = .ok (.iload_n 3, 1) := by decide +kernel
theorem dX10_write_39 : decode cX10_write 39 = .ok (.if_icmp .ge 10, 3) := by decide +kernel
theorem dX10_write_42 : decode cX10_write 42 = .ok (.aload_n 2, 1) := by decide +kernel
theorem dX10_write_43 : decode cX10_write 43 = .ok (.iload 5, 2) := by decide +kernel
theorem dX10_write_45 : decode cX10_write 45 = .ok (.iaload, 1) := by decide +kernel
theorem dX10_write_46 : decode cX10_write 46 = .ok (.goto 4, 3) := by decide +kernel
theorem dX10_write_49 : decode cX10_write 49 = .ok (.iconst 0, 1) := by decide +kernel
theorem dX10_write_50 : decode cX10_write 50 = .ok (.iastore, 1) := by decide +kernel
theorem dX10_write_51 : decode cX10_write 51 = .ok (.iinc 5 1, 3) := by decide +kernel
theorem dX10_write_54 : decode cX10_write 54 = .ok (.goto (-37), 3) := by decide +kernel
theorem dX10_write_57 : decode cX10_write 57 = .ok (.return_, 1) := by decide +kernel
theorem dX10_law_0 : decode cX10_law 0 = .ok (.aload_n 0, 1) := by decide +kernel
theorem dX10_law_1 : decode cX10_law 1 = .ok (.iconst 0, 1) := by decide +kernel
theorem dX10_law_2 : decode cX10_law 2 = .ok (.putfield 1, 3) := by decide +kernel
theorem dX10_law_5 : decode cX10_law 5 = .ok (.iload_n 1, 1) := by decide +kernel
theorem dX10_law_6 : decode cX10_law 6 = .ok (.ifCond .lt 12, 3) := by decide +kernel
theorem dX10_law_9 : decode cX10_law 9 = .ok (.iload_n 1, 1) := by decide +kernel
theorem dX10_law_10 : decode cX10_law 10 = .ok (.iconst 5, 1) := by decide +kernel
theorem dX10_law_11 : decode cX10_law 11 = .ok (.if_icmp .gt 7, 3) := by decide +kernel
theorem dX10_law_14 : decode cX10_law 14 = .ok (.iconst 1, 1) := by decide +kernel
theorem dX10_law_15 : decode cX10_law 15 = .ok (.goto 4, 3) := by decide +kernel
theorem dX10_law_18 : decode cX10_law 18 = .ok (.iconst 0, 1) := by decide +kernel
theorem dX10_law_19 : decode cX10_law 19 = .ok (.istore 4, 2) := by decide +kernel
theorem dX10_law_21 : decode cX10_law 21 = .ok (.iload_n 1, 1) := by decide +kernel
theorem dX10_law_22 : decode cX10_law 22 = .ok (.iconst 1, 1) := by decide +kernel
theorem dX10_law_23 : decode cX10_law 23 = .ok (.if_icmp .eq 8, 3) := by decide +kernel
theorem dX10_law_26 : decode cX10_law 26 = .ok (.iload_n 1, 1) := by decide +kernel
theorem dX10_law_27 : decode cX10_law 27 = .ok (.iconst 2, 1) := by decide +kernel
theorem dX10_law_28 : decode cX10_law 28 = .ok (.if_icmp .ne 50, 3) := by decide +kernel
theorem dX10_law_31 : decode cX10_law 31 = .ok (.iload_n 2, 1) := by decide +kernel
theorem dX10_law_32 : decode cX10_law 32 = .ok (.iconst 1, 1) := by decide +kernel
theorem dX10_law_33 : decode cX10_law 33 = .ok (.if_icmp .lt 42, 3) := by decide +kernel
theorem dX10_law_36 : decode cX10_law 36 = .ok (.iload_n 2, 1) := by decide +kernel
theorem dX10_law_37 : decode cX10_law 37 = .ok (.bipush 30, 2) := by decide +kernel
theorem dX10_law_39 : decode cX10_law 39 = .ok (.if_icmp .gt 36, 3) := by decide +kernel
theorem dX10_law_42 : decode cX10_law 42 = .ok (.iload_n 3, 1) := by decide +kernel
theorem dX10_law_43 : decode cX10_law 43 = .ok (.iconst 1, 1) := by decide +kernel
theorem dX10_law_44 : decode cX10_law 44 = .ok (.if_icmp .lt 31, 3) := by decide +kernel
theorem dX10_law_47 : decode cX10_law 47 = .ok (.iload_n 3, 1) := by decide +kernel
theorem dX10_law_48 : decode cX10_law 48 = .ok (.bipush 30, 2) := by decide +kernel
theorem dX10_law_50 : decode cX10_law 50 = .ok (.if_icmp .gt 25, 3) := by decide +kernel
theorem dX10_law_53 : decode cX10_law 53 = .ok (.iload_n 1, 1) := by decide +kernel
theorem dX10_law_54 : decode cX10_law 54 = .ok (.iconst 1, 1) := by decide +kernel
theorem dX10_law_55 : decode cX10_law 55 = .ok (.if_icmp .ne 11, 3) := by decide +kernel
theorem dX10_law_58 : decode cX10_law 58 = .ok (.iload_n 2, 1) := by decide +kernel
theorem dX10_law_59 : decode cX10_law 59 = .ok (.iload_n 3, 1) := by decide +kernel
theorem dX10_law_60 : decode cX10_law 60 = .ok (.if_icmp .le 15, 3) := by decide +kernel
theorem dX10_law_63 : decode cX10_law 63 = .ok (.goto 8, 3) := by decide +kernel
theorem dX10_law_66 : decode cX10_law 66 = .ok (.iload_n 2, 1) := by decide +kernel
theorem dX10_law_67 : decode cX10_law 67 = .ok (.iload_n 3, 1) := by decide +kernel
theorem dX10_law_68 : decode cX10_law 68 = .ok (.if_icmp .lt 7, 3) := by decide +kernel
theorem dX10_law_71 : decode cX10_law 71 = .ok (.iconst 1, 1) := by decide +kernel
theorem dX10_law_72 : decode cX10_law 72 = .ok (.goto 4, 3) := by decide +kernel
theorem dX10_law_75 : decode cX10_law 75 = .ok (.iconst 0, 1) := by decide +kernel
theorem dX10_law_76 : decode cX10_law 76 = .ok (.istore 4, 2) := by decide +kernel
theorem dX10_law_78 : decode cX10_law 78 = .ok (.iload_n 1, 1) := by decide +kernel
theorem dX10_law_79 : decode cX10_law 79 = .ok (.iconst 3, 1) := by decide +kernel
theorem dX10_law_80 : decode cX10_law 80 = .ok (.if_icmp .ne 24, 3) := by decide +kernel
theorem dX10_law_83 : decode cX10_law 83 = .ok (.iload_n 2, 1) := by decide +kernel
theorem dX10_law_84 : decode cX10_law 84 = .ok (.ifCond .lt 17, 3) := by decide +kernel
theorem dX10_law_87 : decode cX10_law 87 = .ok (.iload_n 2, 1) := by decide +kernel
theorem dX10_law_88 : decode cX10_law 88 = .ok (.bipush 9, 2) := by decide +kernel
theorem dX10_law_90 : decode cX10_law 90 = .ok (.if_icmp .gt 11, 3) := by decide +kernel
theorem dX10_law_93 : decode cX10_law 93 = .ok (.iload_n 3, 1) := by decide +kernel
theorem dX10_law_94 : decode cX10_law 94 = .ok (.ifCond .ne 7, 3) := by decide +kernel
theorem dX10_law_97 : decode cX10_law 97 = .ok (.iconst 1, 1) := by decide +kernel
theorem dX10_law_98 : decode cX10_law 98 = .ok (.goto 4, 3) := by decide +kernel
theorem dX10_law_101 : decode cX10_law 101 = .ok (.iconst 0, 1) := by decide +kernel
theorem dX10_law_102 : decode cX10_law 102 = .ok (.istore 4, 2) := by decide +kernel
theorem dX10_law_104 : decode cX10_law 104 = .ok (.iload_n 1, 1) := by decide +kernel
theorem dX10_law_105 : decode cX10_law 105 = .ok (.iconst 4, 1) := by decide +kernel
theorem dX10_law_106 : decode cX10_law 106 = .ok (.if_icmp .ne 18, 3) := by decide +kernel
theorem dX10_law_109 : decode cX10_law 109 = .ok (.iload_n 2, 1) := by decide +kernel
theorem dX10_law_110 : decode cX10_law 110 = .ok (.ifCond .ne 11, 3) := by decide +kernel
theorem dX10_law_113 : decode cX10_law 113 = .ok (.iload_n 3, 1) := by decide +kernel
theorem dX10_law_114 : decode cX10_law 114 = .ok (.ifCond .ne 7, 3) := by decide +kernel
theorem dX10_law_117 : decode cX10_law 117 = .ok (.iconst 1, 1) := by decide +kernel
theorem dX10_law_118 : decode cX10_law 118 = .ok (.goto 4, 3) := by decide +kernel
theorem dX10_law_121 : decode cX10_law 121 = .ok (.iconst 0, 1) := by decide +kernel
theorem dX10_law_122 : decode cX10_law 122 = .ok (.istore 4, 2) := by decide +kernel
theorem dX10_law_124 : decode cX10_law 124 = .ok (.aload_n 0, 1) := by decide +kernel
theorem dX10_law_125 : decode cX10_law 125 = .ok (.iload 4, 2) := by decide +kernel
theorem dX10_law_127 : decode cX10_law 127 = .ok (.iconst 1, 1) := by decide +kernel
theorem dX10_law_128 : decode cX10_law 128 = .ok (.invokevirtual 100, 3) := by decide +kernel
theorem dX10_law_131 : decode cX10_law 131 = .ok (.ifCond .ne 5, 3) := by decide +kernel
theorem dX10_law_134 : decode cX10_law 134 = .ok (.iconst 0, 1) := by decide +kernel
theorem dX10_law_135 : decode cX10_law 135 = .ok (.ireturn, 1) := by decide +kernel
theorem dX10_law_136 : decode cX10_law 136 = .ok (.aload_n 0, 1) := by decide +kernel
theorem dX10_law_137 : decode cX10_law 137 = .ok (.iconst 0, 1) := by decide +kernel
theorem dX10_law_138 : decode cX10_law 138 = .ok (.putfield 115, 3) := by decide +kernel
theorem dX10_law_141 : decode cX10_law 141 = .ok (.iload_n 1, 1) := by decide +kernel
theorem dX10_law_142 : decode cX10_law 142 = .ok (.ifCond .eq 8, 3) := by decide +kernel
theorem dX10_law_145 : decode cX10_law 145 = .ok (.iload_n 1, 1) := by decide +kernel
theorem dX10_law_146 : decode cX10_law 146 = .ok (.iconst 5, 1) := by decide +kernel
theorem dX10_law_147 : decode cX10_law 147 = .ok (.if_icmp .ne 83, 3) := by decide +kernel
theorem dX10_law_150 : decode cX10_law 150 = .ok (.aload_n 0, 1) := by decide +kernel
theorem dX10_law_151 : decode cX10_law 151 = .ok (.iload_n 2, 1) := by decide +kernel
theorem dX10_law_152 : decode cX10_law 152 = .ok (.iload_n 3, 1) := by decide +kernel
theorem dX10_law_153 : decode cX10_law 153 = .ok (.iconst 2, 1) := by decide +kernel
theorem dX10_law_154 : decode cX10_law 154 = .ok (.invokevirtual 111, 3) := by decide +kernel
theorem dX10_law_157 : decode cX10_law 157 = .ok (.ifCond .ne 5, 3) := by decide +kernel
theorem dX10_law_160 : decode cX10_law 160 = .ok (.iconst 0, 1) := by decide +kernel
theorem dX10_law_161 : decode cX10_law 161 = .ok (.ireturn, 1) := by decide +kernel
theorem dX10_law_162 : decode cX10_law 162 = .ok (.aload_n 0, 1) := by decide +kernel
theorem dX10_law_163 : decode cX10_law 163 = .ok (.iload_n 2, 1) := by decide +kernel
theorem dX10_law_164 : decode cX10_law 164 = .ok (.iload_n 3, 1) := by decide +kernel
theorem dX10_law_165 : decode cX10_law 165 = .ok (.invokevirtual 118, 3) := by decide +kernel
theorem dX10_law_168 : decode cX10_law 168 = .ok (.ifCond .eq 24, 3) := by decide +kernel
theorem dX10_law_171 : decode cX10_law 171 = .ok (.aload_n 0, 1) := by decide +kernel
theorem dX10_law_172 : decode cX10_law 172 = .ok (.getfield 115, 3) := by decide +kernel
theorem dX10_law_175 : decode cX10_law 175 = .ok (.ifCond .eq 17, 3) := by decide +kernel
theorem dX10_law_178 : decode cX10_law 178 = .ok (.iload_n 1, 1) := by decide +kernel
theorem dX10_law_179 : decode cX10_law 179 = .ok (.iconst 5, 1) := by decide +kernel
theorem dX10_law_180 : decode cX10_law 180 = .ok (.if_icmp .ne 14, 3) := by decide +kernel
theorem dX10_law_183 : decode cX10_law 183 = .ok (.aload_n 0, 1) := by decide +kernel
theorem dX10_law_184 : decode cX10_law 184 = .ok (.getfield 115, 3) := by decide +kernel
theorem dX10_law_187 : decode cX10_law 187 = .ok (.bipush 6, 2) := by decide +kernel
theorem dX10_law_189 : decode cX10_law 189 = .ok (.if_icmp .le 5, 3) := by decide +kernel
theorem dX10_law_192 : decode cX10_law 192 = .ok (.iconst (-1), 1) := by decide +kernel
theorem dX10_law_193 : decode cX10_law 193 = .ok (.ireturn, 1) := by decide +kernel
theorem dX10_law_194 : decode cX10_law 194 = .ok (.iconst 0, 1) := by decide +kernel
theorem dX10_law_195 : decode cX10_law 195 = .ok (.istore 5, 2) := by decide +kernel
theorem dX10_law_197 : decode cX10_law 197 = .ok (.iload 5, 2) := by decide +kernel
theorem dX10_law_199 : decode cX10_law 199 = .ok (.aload_n 0, 1) := by decide +kernel
theorem dX10_law_200 : decode cX10_law 200 = .ok (.getfield 115, 3) := by decide +kernel
theorem dX10_law_203 : decode cX10_law 203 = .ok (.if_icmp .ge 27, 3) := by decide +kernel
theorem dX10_law_206 : decode cX10_law 206 = .ok (.iload_n 1, 1) := by decide +kernel
theorem dX10_law_207 : decode cX10_law 207 = .ok (.iconst 5, 1) := by decide +kernel
theorem dX10_law_208 : decode cX10_law 208 = .ok (.if_icmp .ne 16, 3) := by decide +kernel
theorem dX10_law_211 : decode cX10_law 211 = .ok (.aload_n 0, 1) := by decide +kernel
theorem dX10_law_212 : decode cX10_law 212 = .ok (.getfield 23, 3) := by decide +kernel
theorem dX10_law_215 : decode cX10_law 215 = .ok (.iload 5, 2) := by decide +kernel
theorem dX10_law_217 : decode cX10_law 217 = .ok (.iaload, 1) := by decide +kernel
theorem dX10_law_218 : decode cX10_law 218 = .ok (.iconst 2, 1) := by decide +kernel
theorem dX10_law_219 : decode cX10_law 219 = .ok (.if_icmp .le 5, 3) := by decide +kernel
theorem dX10_law_222 : decode cX10_law 222 = .ok (.iconst (-1), 1) := by decide +kernel
theorem dX10_law_223 : decode cX10_law 223 = .ok (.ireturn, 1) := by decide +kernel
theorem dX10_law_224 : decode cX10_law 224 = .ok (.iinc 5 1, 3) := by decide +kernel
theorem dX10_law_227 : decode cX10_law 227 = .ok (.goto (-30), 3) := by decide +kernel
theorem dX10_law_230 : decode cX10_law 230 = .ok (.aload_n 0, 1) := by decide +kernel
theorem dX10_law_231 : decode cX10_law 231 = .ok (.getfield 122, 3) := by decide +kernel
theorem dX10_law_234 : decode cX10_law 234 = .ok (.bipush 12, 2) := by decide +kernel
theorem dX10_law_236 : decode cX10_law 236 = .ok (.if_icmp .ne 6, 3) := by decide +kernel
theorem dX10_law_239 : decode cX10_law 239 = .ok (.bipush (-2), 2) := by decide +kernel
theorem dX10_law_241 : decode cX10_law 241 = .ok (.ireturn, 1) := by decide +kernel
theorem dX10_law_242 : decode cX10_law 242 = .ok (.aload_n 0, 1) := by decide +kernel
theorem dX10_law_243 : decode cX10_law 243 = .ok (.getfield 26, 3) := by decide +kernel
theorem dX10_law_246 : decode cX10_law 246 = .ok (.aload_n 0, 1) := by decide +kernel
theorem dX10_law_247 : decode cX10_law 247 = .ok (.getfield 122, 3) := by decide +kernel
theorem dX10_law_250 : decode cX10_law 250 = .ok (.iload_n 1, 1) := by decide +kernel
theorem dX10_law_251 : decode cX10_law 251 = .ok (.iastore, 1) := by decide +kernel
theorem dX10_law_252 : decode cX10_law 252 = .ok (.aload_n 0, 1) := by decide +kernel
theorem dX10_law_253 : decode cX10_law 253 = .ok (.getfield 29, 3) := by decide +kernel
theorem dX10_law_256 : decode cX10_law 256 = .ok (.aload_n 0, 1) := by decide +kernel
theorem dX10_law_257 : decode cX10_law 257 = .ok (.getfield 122, 3) := by decide +kernel
theorem dX10_law_260 : decode cX10_law 260 = .ok (.iload_n 2, 1) := by decide +kernel
theorem dX10_law_261 : decode cX10_law 261 = .ok (.iastore, 1) := by decide +kernel
theorem dX10_law_262 : decode cX10_law 262 = .ok (.aload_n 0, 1) := by decide +kernel
theorem dX10_law_263 : decode cX10_law 263 = .ok (.getfield 32, 3) := by decide +kernel
theorem dX10_law_266 : decode cX10_law 266 = .ok (.aload_n 0, 1) := by decide +kernel
theorem dX10_law_267 : decode cX10_law 267 = .ok (.getfield 122, 3) := by decide +kernel
theorem dX10_law_270 : decode cX10_law 270 = .ok (.iload_n 3, 1) := by decide +kernel
theorem dX10_law_271 : decode cX10_law 271 = .ok (.iastore, 1) := by decide +kernel
theorem dX10_law_272 : decode cX10_law 272 = .ok (.aload_n 0, 1) := by decide +kernel
theorem dX10_law_273 : decode cX10_law 273 = .ok (.getfield 35, 3) := by decide +kernel
theorem dX10_law_276 : decode cX10_law 276 = .ok (.aload_n 0, 1) := by decide +kernel
theorem dX10_law_277 : decode cX10_law 277 = .ok (.getfield 122, 3) := by decide +kernel
theorem dX10_law_280 : decode cX10_law 280 = .ok (.aload_n 0, 1) := by decide +kernel
theorem dX10_law_281 : decode cX10_law 281 = .ok (.getfield 115, 3) := by decide +kernel
theorem dX10_law_284 : decode cX10_law 284 = .ok (.iastore, 1) := by decide +kernel
theorem dX10_law_285 : decode cX10_law 285 = .ok (.iconst 0, 1) := by decide +kernel
theorem dX10_law_286 : decode cX10_law 286 = .ok (.istore 5, 2) := by decide +kernel
theorem dX10_law_288 : decode cX10_law 288 = .ok (.iload 5, 2) := by decide +kernel
theorem dX10_law_290 : decode cX10_law 290 = .ok (.aload_n 0, 1) := by decide +kernel
theorem dX10_law_291 : decode cX10_law 291 = .ok (.getfield 115, 3) := by decide +kernel
theorem dX10_law_294 : decode cX10_law 294 = .ok (.if_icmp .ge 31, 3) := by decide +kernel
theorem dX10_law_297 : decode cX10_law 297 = .ok (.aload_n 0, 1) := by decide +kernel
theorem dX10_law_298 : decode cX10_law 298 = .ok (.getfield 38, 3) := by decide +kernel
theorem dX10_law_301 : decode cX10_law 301 = .ok (.bipush 80, 2) := by decide +kernel
theorem dX10_law_303 : decode cX10_law 303 = .ok (.aload_n 0, 1) := by decide +kernel
theorem dX10_law_304 : decode cX10_law 304 = .ok (.getfield 122, 3) := by decide +kernel
theorem dX10_law_307 : decode cX10_law 307 = .ok (.imul, 1) := by decide +kernel
theorem dX10_law_308 : decode cX10_law 308 = .ok (.iload 5, 2) := by decide +kernel
theorem dX10_law_310 : decode cX10_law 310 = .ok (.iadd, 1) := by decide +kernel
theorem dX10_law_311 : decode cX10_law 311 = .ok (.aload_n 0, 1) := by decide +kernel
theorem dX10_law_312 : decode cX10_law 312 = .ok (.getfield 23, 3) := by decide +kernel
theorem dX10_law_315 : decode cX10_law 315 = .ok (.iload 5, 2) := by decide +kernel
theorem dX10_law_317 : decode cX10_law 317 = .ok (.iaload, 1) := by decide +kernel
theorem dX10_law_318 : decode cX10_law 318 = .ok (.iastore, 1) := by decide +kernel
theorem dX10_law_319 : decode cX10_law 319 = .ok (.iinc 5 1, 3) := by decide +kernel
theorem dX10_law_322 : decode cX10_law 322 = .ok (.goto (-34), 3) := by decide +kernel
theorem dX10_law_325 : decode cX10_law 325 = .ok (.aload_n 0, 1) := by decide +kernel
theorem dX10_law_326 : decode cX10_law 326 = .ok (.dup, 1) := by decide +kernel
theorem dX10_law_327 : decode cX10_law 327 = .ok (.getfield 122, 3) := by decide +kernel
theorem dX10_law_330 : decode cX10_law 330 = .ok (.iconst 1, 1) := by decide +kernel
theorem dX10_law_331 : decode cX10_law 331 = .ok (.iadd, 1) := by decide +kernel
theorem dX10_law_332 : decode cX10_law 332 = .ok (.putfield 122, 3) := by decide +kernel
theorem dX10_law_335 : decode cX10_law 335 = .ok (.aload_n 0, 1) := by decide +kernel
theorem dX10_law_336 : decode cX10_law 336 = .ok (.getfield 122, 3) := by decide +kernel
theorem dX10_law_339 : decode cX10_law 339 = .ok (.iconst 1, 1) := by decide +kernel
theorem dX10_law_340 : decode cX10_law 340 = .ok (.isub, 1) := by decide +kernel
theorem dX10_law_341 : decode cX10_law 341 = .ok (.ireturn, 1) := by decide +kernel
theorem dX10_count_0 : decode cX10_count 0 = .ok (.aload_n 0, 1) := by decide +kernel
theorem dX10_count_1 : decode cX10_count 1 = .ok (.iconst 0, 1) := by decide +kernel
theorem dX10_count_2 : decode cX10_count 2 = .ok (.putfield 1, 3) := by decide +kernel
theorem dX10_count_5 : decode cX10_count 5 = .ok (.iload_n 1, 1) := by decide +kernel
theorem dX10_count_6 : decode cX10_count 6 = .ok (.ifCond .ne 10, 3) := by decide +kernel
theorem dX10_count_9 : decode cX10_count 9 = .ok (.aload_n 0, 1) := by decide +kernel
theorem dX10_count_10 : decode cX10_count 10 = .ok (.getfield 104, 3) := by decide +kernel
theorem dX10_count_13 : decode cX10_count 13 = .ok (.goto 28, 3) := by decide +kernel
theorem dX10_count_16 : decode cX10_count 16 = .ok (.iload_n 1, 1) := by decide +kernel
theorem dX10_count_17 : decode cX10_count 17 = .ok (.iconst 1, 1) := by decide +kernel
theorem dX10_count_18 : decode cX10_count 18 = .ok (.if_icmp .ne 10, 3) := by decide +kernel
theorem dX10_count_21 : decode cX10_count 21 = .ok (.aload_n 0, 1) := by decide +kernel
theorem dX10_count_22 : decode cX10_count 22 = .ok (.getfield 122, 3) := by decide +kernel
theorem dX10_count_25 : decode cX10_count 25 = .ok (.goto 16, 3) := by decide +kernel
theorem dX10_count_28 : decode cX10_count 28 = .ok (.iload_n 1, 1) := by decide +kernel
theorem dX10_count_29 : decode cX10_count 29 = .ok (.iconst 2, 1) := by decide +kernel
theorem dX10_count_30 : decode cX10_count 30 = .ok (.if_icmp .ne 10, 3) := by decide +kernel
theorem dX10_count_33 : decode cX10_count 33 = .ok (.aload_n 0, 1) := by decide +kernel
theorem dX10_count_34 : decode cX10_count 34 = .ok (.getfield 125, 3) := by decide +kernel
theorem dX10_count_37 : decode cX10_count 37 = .ok (.goto 4, 3) := by decide +kernel
theorem dX10_count_40 : decode cX10_count 40 = .ok (.iconst (-1), 1) := by decide +kernel
theorem dX10_count_41 : decode cX10_count 41 = .ok (.ireturn, 1) := by decide +kernel
theorem dX10_isPeriod_0 : decode cX10_isPeriod 0 = .ok (.iload_n 1, 1) := by decide +kernel
theorem dX10_isPeriod_1 : decode cX10_isPeriod 1 = .ok (.istore 4, 2) := by decide +kernel
theorem dX10_isPeriod_3 : decode cX10_isPeriod 3 = .ok (.iload 4, 2) := by decide +kernel
theorem dX10_isPeriod_5 : decode cX10_isPeriod 5 = .ok (.iload_n 3, 1) := by decide +kernel
theorem dX10_isPeriod_6 : decode cX10_isPeriod 6 = .ok (.iadd, 1) := by decide +kernel
theorem dX10_isPeriod_7 : decode cX10_isPeriod 7 = .ok (.iload_n 2, 1) := by decide +kernel
theorem dX10_isPeriod_8 : decode cX10_isPeriod 8 = .ok (.if_icmp .ge 24, 3) := by decide +kernel
theorem dX10_isPeriod_11 : decode cX10_isPeriod 11 = .ok (.aload_n 0, 1) := by decide +kernel
theorem dX10_isPeriod_12 : decode cX10_isPeriod 12 = .ok (.iload 4, 2) := by decide +kernel
theorem dX10_isPeriod_14 : decode cX10_isPeriod 14 = .ok (.iaload, 1) := by decide +kernel
theorem dX10_isPeriod_15 : decode cX10_isPeriod 15 = .ok (.aload_n 0, 1) := by decide +kernel
theorem dX10_isPeriod_16 : decode cX10_isPeriod 16 = .ok (.iload 4, 2) := by decide +kernel
theorem dX10_isPeriod_18 : decode cX10_isPeriod 18 = .ok (.iload_n 3, 1) := by decide +kernel
theorem dX10_isPeriod_19 : decode cX10_isPeriod 19 = .ok (.iadd, 1) := by decide +kernel
theorem dX10_isPeriod_20 : decode cX10_isPeriod 20 = .ok (.iaload, 1) := by decide +kernel
theorem dX10_isPeriod_21 : decode cX10_isPeriod 21 = .ok (.if_icmp .eq 5, 3) := by decide +kernel
theorem dX10_isPeriod_24 : decode cX10_isPeriod 24 = .ok (.iconst 0, 1) := by decide +kernel
theorem dX10_isPeriod_25 : decode cX10_isPeriod 25 = .ok (.ireturn, 1) := by decide +kernel
theorem dX10_isPeriod_26 : decode cX10_isPeriod 26 = .ok (.iinc 4 1, 3) := by decide +kernel
theorem dX10_isPeriod_29 : decode cX10_isPeriod 29 = .ok (.goto (-26), 3) := by decide +kernel
theorem dX10_isPeriod_32 : decode cX10_isPeriod 32 = .ok (.iconst 1, 1) := by decide +kernel
theorem dX10_isPeriod_33 : decode cX10_isPeriod 33 = .ok (.ireturn, 1) := by decide +kernel
theorem dX10_period_0 : decode cX10_period 0 = .ok (.iconst 1, 1) := by decide +kernel
theorem dX10_period_1 : decode cX10_period 1 = .ok (.istore_n 3, 1) := by decide +kernel
theorem dX10_period_2 : decode cX10_period 2 = .ok (.aload_n 0, 1) := by decide +kernel
theorem dX10_period_3 : decode cX10_period 3 = .ok (.iload_n 1, 1) := by decide +kernel
theorem dX10_period_4 : decode cX10_period 4 = .ok (.iload_n 2, 1) := by decide +kernel
theorem dX10_period_5 : decode cX10_period 5 = .ok (.iload_n 3, 1) := by decide +kernel
theorem dX10_period_6 : decode cX10_period 6 = .ok (.invokestatic 128, 3) := by decide +kernel
theorem dX10_period_9 : decode cX10_period 9 = .ok (.ifCond .ne 9, 3) := by decide +kernel
theorem dX10_period_12 : decode cX10_period 12 = .ok (.iinc 3 1, 3) := by decide +kernel
theorem dX10_period_15 : decode cX10_period 15 = .ok (.goto (-13), 3) := by decide +kernel
theorem dX10_period_18 : decode cX10_period 18 = .ok (.iload_n 3, 1) := by decide +kernel
theorem dX10_period_19 : decode cX10_period 19 = .ok (.ireturn, 1) := by decide +kernel
theorem dX10_isTurned_0 : decode cX10_isTurned 0 = .ok (.iconst 0, 1) := by decide +kernel
theorem dX10_isTurned_1 : decode cX10_isTurned 1 = .ok (.istore 4, 2) := by decide +kernel
theorem dX10_isTurned_3 : decode cX10_isTurned 3 = .ok (.iload 4, 2) := by decide +kernel
theorem dX10_isTurned_5 : decode cX10_isTurned 5 = .ok (.bipush 8, 2) := by decide +kernel
theorem dX10_isTurned_7 : decode cX10_isTurned 7 = .ok (.if_icmp .ge 17, 3) := by decide +kernel
theorem dX10_isTurned_10 : decode cX10_isTurned 10 = .ok (.aload_n 0, 1) := by decide +kernel
theorem dX10_isTurned_11 : decode cX10_isTurned 11 = .ok (.getfield 41, 3) := by decide +kernel
theorem dX10_isTurned_14 : decode cX10_isTurned 14 = .ok (.iload 4, 2) := by decide +kernel
theorem dX10_isTurned_16 : decode cX10_isTurned 16 = .ok (.iconst 0, 1) := by decide +kernel
theorem dX10_isTurned_17 : decode cX10_isTurned 17 = .ok (.iastore, 1) := by decide +kernel
theorem dX10_isTurned_18 : decode cX10_isTurned 18 = .ok (.iinc 4 1, 3) := by decide +kernel
theorem dX10_isTurned_21 : decode cX10_isTurned 21 = .ok (.goto (-18), 3) := by decide +kernel
theorem dX10_isTurned_24 : decode cX10_isTurned 24 = .ok (.iconst 0, 1) := by decide +kernel
theorem dX10_isTurned_25 : decode cX10_isTurned 25 = .ok (.istore 4, 2) := by decide +kernel
theorem dX10_isTurned_27 : decode cX10_isTurned 27 = .ok (.iload 4, 2) := by decide +kernel
theorem dX10_isTurned_29 : decode cX10_isTurned 29 = .ok (.iload_n 3, 1) := by decide +kernel
theorem dX10_isTurned_30 : decode cX10_isTurned 30 = .ok (.if_icmp .ge 41, 3) := by decide +kernel
theorem dX10_isTurned_33 : decode cX10_isTurned 33 = .ok (.aload_n 0, 1) := by decide +kernel
theorem dX10_isTurned_34 : decode cX10_isTurned 34 = .ok (.getfield 41, 3) := by decide +kernel
theorem dX10_isTurned_37 : decode cX10_isTurned 37 = .ok (.aload_n 1, 1) := by decide +kernel
theorem dX10_isTurned_38 : decode cX10_isTurned 38 = .ok (.iload_n 2, 1) := by decide +kernel
theorem dX10_isTurned_39 : decode cX10_isTurned 39 = .ok (.iload 4, 2) := by decide +kernel
theorem dX10_isTurned_41 : decode cX10_isTurned 41 = .ok (.iadd, 1) := by decide +kernel
theorem dX10_isTurned_42 : decode cX10_isTurned 42 = .ok (.iaload, 1) := by decide +kernel
theorem dX10_isTurned_43 : decode cX10_isTurned 43 = .ok (.dup2, 1) := by decide +kernel
theorem dX10_isTurned_44 : decode cX10_isTurned 44 = .ok (.iaload, 1) := by decide +kernel
theorem dX10_isTurned_45 : decode cX10_isTurned 45 = .ok (.iconst 1, 1) := by decide +kernel
theorem dX10_isTurned_46 : decode cX10_isTurned 46 = .ok (.iadd, 1) := by decide +kernel
theorem dX10_isTurned_47 : decode cX10_isTurned 47 = .ok (.iastore, 1) := by decide +kernel
theorem dX10_isTurned_48 : decode cX10_isTurned 48 = .ok (.aload_n 0, 1) := by decide +kernel
theorem dX10_isTurned_49 : decode cX10_isTurned 49 = .ok (.getfield 41, 3) := by decide +kernel
theorem dX10_isTurned_52 : decode cX10_isTurned 52 = .ok (.aload_n 1, 1) := by decide +kernel
theorem dX10_isTurned_53 : decode cX10_isTurned 53 = .ok (.iload_n 2, 1) := by decide +kernel
theorem dX10_isTurned_54 : decode cX10_isTurned 54 = .ok (.iload_n 3, 1) := by decide +kernel
theorem dX10_isTurned_55 : decode cX10_isTurned 55 = .ok (.iadd, 1) := by decide +kernel
theorem dX10_isTurned_56 : decode cX10_isTurned 56 = .ok (.iload 4, 2) := by decide +kernel
theorem dX10_isTurned_58 : decode cX10_isTurned 58 = .ok (.iadd, 1) := by decide +kernel
theorem dX10_isTurned_59 : decode cX10_isTurned 59 = .ok (.iaload, 1) := by decide +kernel
theorem dX10_isTurned_60 : decode cX10_isTurned 60 = .ok (.dup2, 1) := by decide +kernel
theorem dX10_isTurned_61 : decode cX10_isTurned 61 = .ok (.iaload, 1) := by decide +kernel
theorem dX10_isTurned_62 : decode cX10_isTurned 62 = .ok (.iconst 1, 1) := by decide +kernel
theorem dX10_isTurned_63 : decode cX10_isTurned 63 = .ok (.isub, 1) := by decide +kernel
theorem dX10_isTurned_64 : decode cX10_isTurned 64 = .ok (.iastore, 1) := by decide +kernel
theorem dX10_isTurned_65 : decode cX10_isTurned 65 = .ok (.iinc 4 1, 3) := by decide +kernel
theorem dX10_isTurned_68 : decode cX10_isTurned 68 = .ok (.goto (-41), 3) := by decide +kernel
theorem dX10_isTurned_71 : decode cX10_isTurned 71 = .ok (.iconst 1, 1) := by decide +kernel
theorem dX10_isTurned_72 : decode cX10_isTurned 72 = .ok (.istore 4, 2) := by decide +kernel
theorem dX10_isTurned_74 : decode cX10_isTurned 74 = .ok (.iconst 0, 1) := by decide +kernel
theorem dX10_isTurned_75 : decode cX10_isTurned 75 = .ok (.istore 5, 2) := by decide +kernel
theorem dX10_isTurned_77 : decode cX10_isTurned 77 = .ok (.iload 5, 2) := by decide +kernel
theorem dX10_isTurned_79 : decode cX10_isTurned 79 = .ok (.bipush 8, 2) := by decide +kernel
theorem dX10_isTurned_81 : decode cX10_isTurned 81 = .ok (.if_icmp .ge 31, 3) := by decide +kernel
theorem dX10_isTurned_84 : decode cX10_isTurned 84 = .ok (.iload 4, 2) := by decide +kernel
theorem dX10_isTurned_86 : decode cX10_isTurned 86 = .ok (.ifCond .eq 17, 3) := by decide +kernel
theorem dX10_isTurned_89 : decode cX10_isTurned 89 = .ok (.aload_n 0, 1) := by decide +kernel
theorem dX10_isTurned_90 : decode cX10_isTurned 90 = .ok (.getfield 41, 3) := by decide +kernel
theorem dX10_isTurned_93 : decode cX10_isTurned 93 = .ok (.iload 5, 2) := by decide +kernel
theorem dX10_isTurned_95 : decode cX10_isTurned 95 = .ok (.iaload, 1) := by decide +kernel
theorem dX10_isTurned_96 : decode cX10_isTurned 96 = .ok (.ifCond .ne 7, 3) := by decide +kernel
theorem dX10_isTurned_99 : decode cX10_isTurned 99 = .ok (.iconst 1, 1) := by decide +kernel
theorem dX10_isTurned_100 : decode cX10_isTurned 100 = .ok (.goto 4, 3) := by decide +kernel
theorem dX10_isTurned_103 : decode cX10_isTurned 103 = .ok (.iconst 0, 1) := by decide +kernel
theorem dX10_isTurned_104 : decode cX10_isTurned 104 = .ok (.istore 4, 2) := by decide +kernel
theorem dX10_isTurned_106 : decode cX10_isTurned 106 = .ok (.iinc 5 1, 3) := by decide +kernel
theorem dX10_isTurned_109 : decode cX10_isTurned 109 = .ok (.goto (-32), 3) := by decide +kernel
theorem dX10_isTurned_112 : decode cX10_isTurned 112 = .ok (.iload 4, 2) := by decide +kernel
theorem dX10_isTurned_114 : decode cX10_isTurned 114 = .ok (.ireturn, 1) := by decide +kernel
theorem dX10_isBarred_0 : decode cX10_isBarred 0 = .ok (.iload 4, 2) := by decide +kernel
theorem dX10_isBarred_2 : decode cX10_isBarred 2 = .ok (.iload_n 3, 1) := by decide +kernel
theorem dX10_isBarred_3 : decode cX10_isBarred 3 = .ok (.isub, 1) := by decide +kernel
theorem dX10_isBarred_4 : decode cX10_isBarred 4 = .ok (.istore 5, 2) := by decide +kernel
theorem dX10_isBarred_6 : decode cX10_isBarred 6 = .ok (.aload_n 0, 1) := by decide +kernel
theorem dX10_isBarred_7 : decode cX10_isBarred 7 = .ok (.getfield 26, 3) := by decide +kernel
theorem dX10_isBarred_10 : decode cX10_isBarred 10 = .ok (.iload_n 1, 1) := by decide +kernel
theorem dX10_isBarred_11 : decode cX10_isBarred 11 = .ok (.iaload, 1) := by decide +kernel
theorem dX10_isBarred_12 : decode cX10_isBarred 12 = .ok (.tableswitch 281 0 4 #[36, 106, 138, 170, 255], 36) := by decide +kernel
theorem dX10_isBarred_48 : decode cX10_isBarred 48 = .ok (.iload 5, 2) := by decide +kernel
theorem dX10_isBarred_50 : decode cX10_isBarred 50 = .ok (.aload_n 0, 1) := by decide +kernel
theorem dX10_isBarred_51 : decode cX10_isBarred 51 = .ok (.getfield 35, 3) := by decide +kernel
theorem dX10_isBarred_54 : decode cX10_isBarred 54 = .ok (.iload_n 1, 1) := by decide +kernel
theorem dX10_isBarred_55 : decode cX10_isBarred 55 = .ok (.iaload, 1) := by decide +kernel
theorem dX10_isBarred_56 : decode cX10_isBarred 56 = .ok (.if_icmp .ne 7, 3) := by decide +kernel
theorem dX10_isBarred_59 : decode cX10_isBarred 59 = .ok (.iconst 1, 1) := by decide +kernel
theorem dX10_isBarred_60 : decode cX10_isBarred 60 = .ok (.goto 4, 3) := by decide +kernel
theorem dX10_isBarred_63 : decode cX10_isBarred 63 = .ok (.iconst 0, 1) := by decide +kernel
theorem dX10_isBarred_64 : decode cX10_isBarred 64 = .ok (.istore 6, 2) := by decide +kernel
theorem dX10_isBarred_66 : decode cX10_isBarred 66 = .ok (.iconst 0, 1) := by decide +kernel
theorem dX10_isBarred_67 : decode cX10_isBarred 67 = .ok (.istore 7, 2) := by decide +kernel
theorem dX10_isBarred_69 : decode cX10_isBarred 69 = .ok (.iload 7, 2) := by decide +kernel
theorem dX10_isBarred_71 : decode cX10_isBarred 71 = .ok (.iload 5, 2) := by decide +kernel
theorem dX10_isBarred_73 : decode cX10_isBarred 73 = .ok (.if_icmp .ge 42, 3) := by decide +kernel
theorem dX10_isBarred_76 : decode cX10_isBarred 76 = .ok (.iload 6, 2) := by decide +kernel
theorem dX10_isBarred_78 : decode cX10_isBarred 78 = .ok (.ifCond .eq 37, 3) := by decide +kernel
theorem dX10_isBarred_81 : decode cX10_isBarred 81 = .ok (.aload_n 2, 1) := by decide +kernel
theorem dX10_isBarred_82 : decode cX10_isBarred 82 = .ok (.iload_n 3, 1) := by decide +kernel
theorem dX10_isBarred_83 : decode cX10_isBarred 83 = .ok (.iload 7, 2) := by decide +kernel
theorem dX10_isBarred_85 : decode cX10_isBarred 85 = .ok (.iadd, 1) := by decide +kernel
theorem dX10_isBarred_86 : decode cX10_isBarred 86 = .ok (.iaload, 1) := by decide +kernel
theorem dX10_isBarred_87 : decode cX10_isBarred 87 = .ok (.aload_n 0, 1) := by decide +kernel
theorem dX10_isBarred_88 : decode cX10_isBarred 88 = .ok (.getfield 38, 3) := by decide +kernel
theorem dX10_isBarred_91 : decode cX10_isBarred 91 = .ok (.bipush 80, 2) := by decide +kernel
theorem dX10_isBarred_93 : decode cX10_isBarred 93 = .ok (.iload_n 1, 1) := by decide +kernel
theorem dX10_isBarred_94 : decode cX10_isBarred 94 = .ok (.imul, 1) := by decide +kernel
theorem dX10_isBarred_95 : decode cX10_isBarred 95 = .ok (.iload 7, 2) := by decide +kernel
theorem dX10_isBarred_97 : decode cX10_isBarred 97 = .ok (.iadd, 1) := by decide +kernel
theorem dX10_isBarred_98 : decode cX10_isBarred 98 = .ok (.iaload, 1) := by decide +kernel
theorem dX10_isBarred_99 : decode cX10_isBarred 99 = .ok (.if_icmp .ne 7, 3) := by decide +kernel
theorem dX10_isBarred_102 : decode cX10_isBarred 102 = .ok (.iconst 1, 1) := by decide +kernel
theorem dX10_isBarred_103 : decode cX10_isBarred 103 = .ok (.goto 4, 3) := by decide +kernel
theorem dX10_isBarred_106 : decode cX10_isBarred 106 = .ok (.iconst 0, 1) := by decide +kernel
theorem dX10_isBarred_107 : decode cX10_isBarred 107 = .ok (.istore 6, 2) := by decide +kernel
theorem dX10_isBarred_109 : decode cX10_isBarred 109 = .ok (.iinc 7 1, 3) := by decide +kernel
theorem dX10_isBarred_112 : decode cX10_isBarred 112 = .ok (.goto (-43), 3) := by decide +kernel
theorem dX10_isBarred_115 : decode cX10_isBarred 115 = .ok (.iload 6, 2) := by decide +kernel
theorem dX10_isBarred_117 : decode cX10_isBarred 117 = .ok (.ireturn, 1) := by decide +kernel
theorem dX10_isBarred_118 : decode cX10_isBarred 118 = .ok (.iload 5, 2) := by decide +kernel
theorem dX10_isBarred_120 : decode cX10_isBarred 120 = .ok (.aload_n 0, 1) := by decide +kernel
theorem dX10_isBarred_121 : decode cX10_isBarred 121 = .ok (.getfield 32, 3) := by decide +kernel
theorem dX10_isBarred_124 : decode cX10_isBarred 124 = .ok (.iload_n 1, 1) := by decide +kernel
theorem dX10_isBarred_125 : decode cX10_isBarred 125 = .ok (.iaload, 1) := by decide +kernel
theorem dX10_isBarred_126 : decode cX10_isBarred 126 = .ok (.imul, 1) := by decide +kernel
theorem dX10_isBarred_127 : decode cX10_isBarred 127 = .ok (.aload_n 0, 1) := by decide +kernel
theorem dX10_isBarred_128 : decode cX10_isBarred 128 = .ok (.getfield 29, 3) := by decide +kernel
theorem dX10_isBarred_131 : decode cX10_isBarred 131 = .ok (.iload_n 1, 1) := by decide +kernel
theorem dX10_isBarred_132 : decode cX10_isBarred 132 = .ok (.iaload, 1) := by decide +kernel
theorem dX10_isBarred_133 : decode cX10_isBarred 133 = .ok (.aload_n 2, 1) := by decide +kernel
theorem dX10_isBarred_134 : decode cX10_isBarred 134 = .ok (.iload_n 3, 1) := by decide +kernel
theorem dX10_isBarred_135 : decode cX10_isBarred 135 = .ok (.iload 4, 2) := by decide +kernel
theorem dX10_isBarred_137 : decode cX10_isBarred 137 = .ok (.invokestatic 132, 3) := by decide +kernel
theorem dX10_isBarred_140 : decode cX10_isBarred 140 = .ok (.imul, 1) := by decide +kernel
theorem dX10_isBarred_141 : decode cX10_isBarred 141 = .ok (.if_icmp .lt 7, 3) := by decide +kernel
theorem dX10_isBarred_144 : decode cX10_isBarred 144 = .ok (.iconst 1, 1) := by decide +kernel
theorem dX10_isBarred_145 : decode cX10_isBarred 145 = .ok (.goto 4, 3) := by decide +kernel
theorem dX10_isBarred_148 : decode cX10_isBarred 148 = .ok (.iconst 0, 1) := by decide +kernel
theorem dX10_isBarred_149 : decode cX10_isBarred 149 = .ok (.ireturn, 1) := by decide +kernel
theorem dX10_isBarred_150 : decode cX10_isBarred 150 = .ok (.iload 5, 2) := by decide +kernel
theorem dX10_isBarred_152 : decode cX10_isBarred 152 = .ok (.aload_n 0, 1) := by decide +kernel
theorem dX10_isBarred_153 : decode cX10_isBarred 153 = .ok (.getfield 32, 3) := by decide +kernel
theorem dX10_isBarred_156 : decode cX10_isBarred 156 = .ok (.iload_n 1, 1) := by decide +kernel
theorem dX10_isBarred_157 : decode cX10_isBarred 157 = .ok (.iaload, 1) := by decide +kernel
theorem dX10_isBarred_158 : decode cX10_isBarred 158 = .ok (.imul, 1) := by decide +kernel
theorem dX10_isBarred_159 : decode cX10_isBarred 159 = .ok (.aload_n 0, 1) := by decide +kernel
theorem dX10_isBarred_160 : decode cX10_isBarred 160 = .ok (.getfield 29, 3) := by decide +kernel
theorem dX10_isBarred_163 : decode cX10_isBarred 163 = .ok (.iload_n 1, 1) := by decide +kernel
theorem dX10_isBarred_164 : decode cX10_isBarred 164 = .ok (.iaload, 1) := by decide +kernel
theorem dX10_isBarred_165 : decode cX10_isBarred 165 = .ok (.aload_n 2, 1) := by decide +kernel
theorem dX10_isBarred_166 : decode cX10_isBarred 166 = .ok (.iload_n 3, 1) := by decide +kernel
theorem dX10_isBarred_167 : decode cX10_isBarred 167 = .ok (.iload 4, 2) := by decide +kernel
theorem dX10_isBarred_169 : decode cX10_isBarred 169 = .ok (.invokestatic 132, 3) := by decide +kernel
theorem dX10_isBarred_172 : decode cX10_isBarred 172 = .ok (.imul, 1) := by decide +kernel
theorem dX10_isBarred_173 : decode cX10_isBarred 173 = .ok (.if_icmp .le 7, 3) := by decide +kernel
theorem dX10_isBarred_176 : decode cX10_isBarred 176 = .ok (.iconst 1, 1) := by decide +kernel
theorem dX10_isBarred_177 : decode cX10_isBarred 177 = .ok (.goto 4, 3) := by decide +kernel
theorem dX10_isBarred_180 : decode cX10_isBarred 180 = .ok (.iconst 0, 1) := by decide +kernel
theorem dX10_isBarred_181 : decode cX10_isBarred 181 = .ok (.ireturn, 1) := by decide +kernel
theorem dX10_isBarred_182 : decode cX10_isBarred 182 = .ok (.iload 5, 2) := by decide +kernel
theorem dX10_isBarred_184 : decode cX10_isBarred 184 = .ok (.iconst 2, 1) := by decide +kernel
theorem dX10_isBarred_185 : decode cX10_isBarred 185 = .ok (.irem, 1) := by decide +kernel
theorem dX10_isBarred_186 : decode cX10_isBarred 186 = .ok (.iconst 1, 1) := by decide +kernel
theorem dX10_isBarred_187 : decode cX10_isBarred 187 = .ok (.if_icmp .ne 5, 3) := by decide +kernel
theorem dX10_isBarred_190 : decode cX10_isBarred 190 = .ok (.iconst 0, 1) := by decide +kernel
theorem dX10_isBarred_191 : decode cX10_isBarred 191 = .ok (.ireturn, 1) := by decide +kernel
theorem dX10_isBarred_192 : decode cX10_isBarred 192 = .ok (.iload 5, 2) := by decide +kernel
theorem dX10_isBarred_194 : decode cX10_isBarred 194 = .ok (.iconst 2, 1) := by decide +kernel
theorem dX10_isBarred_195 : decode cX10_isBarred 195 = .ok (.idiv, 1) := by decide +kernel
theorem dX10_isBarred_196 : decode cX10_isBarred 196 = .ok (.istore 6, 2) := by decide +kernel
theorem dX10_isBarred_198 : decode cX10_isBarred 198 = .ok (.iconst 0, 1) := by decide +kernel
theorem dX10_isBarred_199 : decode cX10_isBarred 199 = .ok (.istore 7, 2) := by decide +kernel
theorem dX10_isBarred_201 : decode cX10_isBarred 201 = .ok (.iload_n 3, 1) := by decide +kernel
theorem dX10_isBarred_202 : decode cX10_isBarred 202 = .ok (.istore 8, 2) := by decide +kernel
theorem dX10_isBarred_204 : decode cX10_isBarred 204 = .ok (.iload 8, 2) := by decide +kernel
theorem dX10_isBarred_206 : decode cX10_isBarred 206 = .ok (.iload_n 3, 1) := by decide +kernel
theorem dX10_isBarred_207 : decode cX10_isBarred 207 = .ok (.iload 6, 2) := by decide +kernel
theorem dX10_isBarred_209 : decode cX10_isBarred 209 = .ok (.iadd, 1) := by decide +kernel
theorem dX10_isBarred_210 : decode cX10_isBarred 210 = .ok (.if_icmp .ge 33, 3) := by decide +kernel
theorem dX10_isBarred_213 : decode cX10_isBarred 213 = .ok (.iload 7, 2) := by decide +kernel
theorem dX10_isBarred_215 : decode cX10_isBarred 215 = .ok (.aload_n 2, 1) := by decide +kernel
theorem dX10_isBarred_216 : decode cX10_isBarred 216 = .ok (.iload 8, 2) := by decide +kernel
theorem dX10_isBarred_218 : decode cX10_isBarred 218 = .ok (.iaload, 1) := by decide +kernel
theorem dX10_isBarred_219 : decode cX10_isBarred 219 = .ok (.aload_n 2, 1) := by decide +kernel
theorem dX10_isBarred_220 : decode cX10_isBarred 220 = .ok (.iload 8, 2) := by decide +kernel
theorem dX10_isBarred_222 : decode cX10_isBarred 222 = .ok (.iload 6, 2) := by decide +kernel
theorem dX10_isBarred_224 : decode cX10_isBarred 224 = .ok (.iadd, 1) := by decide +kernel
theorem dX10_isBarred_225 : decode cX10_isBarred 225 = .ok (.iaload, 1) := by decide +kernel
theorem dX10_isBarred_226 : decode cX10_isBarred 226 = .ok (.if_icmp .ne 7, 3) := by decide +kernel
theorem dX10_isBarred_229 : decode cX10_isBarred 229 = .ok (.iconst 0, 1) := by decide +kernel
theorem dX10_isBarred_230 : decode cX10_isBarred 230 = .ok (.goto 4, 3) := by decide +kernel
theorem dX10_isBarred_233 : decode cX10_isBarred 233 = .ok (.iconst 1, 1) := by decide +kernel
theorem dX10_isBarred_234 : decode cX10_isBarred 234 = .ok (.iadd, 1) := by decide +kernel
theorem dX10_isBarred_235 : decode cX10_isBarred 235 = .ok (.istore 7, 2) := by decide +kernel
theorem dX10_isBarred_237 : decode cX10_isBarred 237 = .ok (.iinc 8 1, 3) := by decide +kernel
theorem dX10_isBarred_240 : decode cX10_isBarred 240 = .ok (.goto (-36), 3) := by decide +kernel
theorem dX10_isBarred_243 : decode cX10_isBarred 243 = .ok (.iload 7, 2) := by decide +kernel
theorem dX10_isBarred_245 : decode cX10_isBarred 245 = .ok (.aload_n 0, 1) := by decide +kernel
theorem dX10_isBarred_246 : decode cX10_isBarred 246 = .ok (.getfield 29, 3) := by decide +kernel
theorem dX10_isBarred_249 : decode cX10_isBarred 249 = .ok (.iload_n 1, 1) := by decide +kernel
theorem dX10_isBarred_250 : decode cX10_isBarred 250 = .ok (.iaload, 1) := by decide +kernel
theorem dX10_isBarred_251 : decode cX10_isBarred 251 = .ok (.if_icmp .gt 14, 3) := by decide +kernel
theorem dX10_isBarred_254 : decode cX10_isBarred 254 = .ok (.iload 7, 2) := by decide +kernel
theorem dX10_isBarred_256 : decode cX10_isBarred 256 = .ok (.iload 6, 2) := by decide +kernel
theorem dX10_isBarred_258 : decode cX10_isBarred 258 = .ok (.if_icmp .ge 7, 3) := by decide +kernel
theorem dX10_isBarred_261 : decode cX10_isBarred 261 = .ok (.iconst 1, 1) := by decide +kernel
theorem dX10_isBarred_262 : decode cX10_isBarred 262 = .ok (.goto 4, 3) := by decide +kernel
theorem dX10_isBarred_265 : decode cX10_isBarred 265 = .ok (.iconst 0, 1) := by decide +kernel
theorem dX10_isBarred_266 : decode cX10_isBarred 266 = .ok (.ireturn, 1) := by decide +kernel
theorem dX10_isBarred_267 : decode cX10_isBarred 267 = .ok (.iload 5, 2) := by decide +kernel
theorem dX10_isBarred_269 : decode cX10_isBarred 269 = .ok (.iconst 2, 1) := by decide +kernel
theorem dX10_isBarred_270 : decode cX10_isBarred 270 = .ok (.irem, 1) := by decide +kernel
theorem dX10_isBarred_271 : decode cX10_isBarred 271 = .ok (.ifCond .ne 20, 3) := by decide +kernel
theorem dX10_isBarred_274 : decode cX10_isBarred 274 = .ok (.aload_n 0, 1) := by decide +kernel
theorem dX10_isBarred_275 : decode cX10_isBarred 275 = .ok (.aload_n 2, 1) := by decide +kernel
theorem dX10_isBarred_276 : decode cX10_isBarred 276 = .ok (.iload_n 3, 1) := by decide +kernel
theorem dX10_isBarred_277 : decode cX10_isBarred 277 = .ok (.iload 5, 2) := by decide +kernel
theorem dX10_isBarred_279 : decode cX10_isBarred 279 = .ok (.iconst 2, 1) := by decide +kernel
theorem dX10_isBarred_280 : decode cX10_isBarred 280 = .ok (.idiv, 1) := by decide +kernel
theorem dX10_isBarred_281 : decode cX10_isBarred 281 = .ok (.invokevirtual 136, 3) := by decide +kernel
theorem dX10_isBarred_284 : decode cX10_isBarred 284 = .ok (.ifCond .eq 7, 3) := by decide +kernel
theorem dX10_isBarred_287 : decode cX10_isBarred 287 = .ok (.iconst 1, 1) := by decide +kernel
theorem dX10_isBarred_288 : decode cX10_isBarred 288 = .ok (.goto 4, 3) := by decide +kernel
theorem dX10_isBarred_291 : decode cX10_isBarred 291 = .ok (.iconst 0, 1) := by decide +kernel
theorem dX10_isBarred_292 : decode cX10_isBarred 292 = .ok (.ireturn, 1) := by decide +kernel
theorem dX10_isBarred_293 : decode cX10_isBarred 293 = .ok (.aload_n 0, 1) := by decide +kernel
theorem dX10_isBarred_294 : decode cX10_isBarred 294 = .ok (.aload_n 0, 1) := by decide +kernel
theorem dX10_isBarred_295 : decode cX10_isBarred 295 = .ok (.getfield 38, 3) := by decide +kernel
theorem dX10_isBarred_298 : decode cX10_isBarred 298 = .ok (.bipush 80, 2) := by decide +kernel
theorem dX10_isBarred_300 : decode cX10_isBarred 300 = .ok (.iload_n 1, 1) := by decide +kernel
theorem dX10_isBarred_301 : decode cX10_isBarred 301 = .ok (.imul, 1) := by decide +kernel
theorem dX10_isBarred_302 : decode cX10_isBarred 302 = .ok (.aload_n 0, 1) := by decide +kernel
theorem dX10_isBarred_303 : decode cX10_isBarred 303 = .ok (.getfield 35, 3) := by decide +kernel
theorem dX10_isBarred_306 : decode cX10_isBarred 306 = .ok (.iload_n 1, 1) := by decide +kernel
theorem dX10_isBarred_307 : decode cX10_isBarred 307 = .ok (.iaload, 1) := by decide +kernel
theorem dX10_isBarred_308 : decode cX10_isBarred 308 = .ok (.aload_n 2, 1) := by decide +kernel
theorem dX10_isBarred_309 : decode cX10_isBarred 309 = .ok (.iload_n 3, 1) := by decide +kernel
theorem dX10_isBarred_310 : decode cX10_isBarred 310 = .ok (.iload 4, 2) := by decide +kernel
theorem dX10_isBarred_312 : decode cX10_isBarred 312 = .ok (.invokevirtual 140, 3) := by decide +kernel
theorem dX10_isBarred_315 : decode cX10_isBarred 315 = .ok (.ireturn, 1) := by decide +kernel
theorem dX10_comesOf_0 : decode cX10_comesOf 0 = .ok (.iload 6, 2) := by decide +kernel
theorem dX10_comesOf_2 : decode cX10_comesOf 2 = .ok (.iload 5, 2) := by decide +kernel
theorem dX10_comesOf_4 : decode cX10_comesOf 4 = .ok (.isub, 1) := by decide +kernel
theorem dX10_comesOf_5 : decode cX10_comesOf 5 = .ok (.istore 7, 2) := by decide +kernel
theorem dX10_comesOf_7 : decode cX10_comesOf 7 = .ok (.iconst 1, 1) := by decide +kernel
theorem dX10_comesOf_8 : decode cX10_comesOf 8 = .ok (.istore 8, 2) := by decide +kernel
theorem dX10_comesOf_10 : decode cX10_comesOf 10 = .ok (.iload 8, 2) := by decide +kernel
theorem dX10_comesOf_12 : decode cX10_comesOf 12 = .ok (.iload 7, 2) := by decide +kernel
theorem dX10_comesOf_14 : decode cX10_comesOf 14 = .ok (.if_icmp .gt 122, 3) := by decide +kernel
theorem dX10_comesOf_17 : decode cX10_comesOf 17 = .ok (.iconst 1, 1) := by decide +kernel
theorem dX10_comesOf_18 : decode cX10_comesOf 18 = .ok (.istore 9, 2) := by decide +kernel
theorem dX10_comesOf_20 : decode cX10_comesOf 20 = .ok (.iload 9, 2) := by decide +kernel
theorem dX10_comesOf_22 : decode cX10_comesOf 22 = .ok (.iload 7, 2) := by decide +kernel
theorem dX10_comesOf_24 : decode cX10_comesOf 24 = .ok (.if_icmp .gt 93, 3) := by decide +kernel
theorem dX10_comesOf_27 : decode cX10_comesOf 27 = .ok (.iconst 1, 1) := by decide +kernel
theorem dX10_comesOf_28 : decode cX10_comesOf 28 = .ok (.istore 10, 2) := by decide +kernel
theorem dX10_comesOf_30 : decode cX10_comesOf 30 = .ok (.iload 10, 2) := by decide +kernel
theorem dX10_comesOf_32 : decode cX10_comesOf 32 = .ok (.iload 7, 2) := by decide +kernel
theorem dX10_comesOf_34 : decode cX10_comesOf 34 = .ok (.if_icmp .gt 64, 3) := by decide +kernel
theorem dX10_comesOf_37 : decode cX10_comesOf 37 = .ok (.aload_n 0, 1) := by decide +kernel
theorem dX10_comesOf_38 : decode cX10_comesOf 38 = .ok (.getfield 47, 3) := by decide +kernel
theorem dX10_comesOf_41 : decode cX10_comesOf 41 = .ok (.iconst 0, 1) := by decide +kernel
theorem dX10_comesOf_42 : decode cX10_comesOf 42 = .ok (.iload 8, 2) := by decide +kernel
theorem dX10_comesOf_44 : decode cX10_comesOf 44 = .ok (.iastore, 1) := by decide +kernel
theorem dX10_comesOf_45 : decode cX10_comesOf 45 = .ok (.aload_n 0, 1) := by decide +kernel
theorem dX10_comesOf_46 : decode cX10_comesOf 46 = .ok (.getfield 47, 3) := by decide +kernel
theorem dX10_comesOf_49 : decode cX10_comesOf 49 = .ok (.iconst 1, 1) := by decide +kernel
theorem dX10_comesOf_50 : decode cX10_comesOf 50 = .ok (.iload 9, 2) := by decide +kernel
theorem dX10_comesOf_52 : decode cX10_comesOf 52 = .ok (.iastore, 1) := by decide +kernel
theorem dX10_comesOf_53 : decode cX10_comesOf 53 = .ok (.aload_n 0, 1) := by decide +kernel
theorem dX10_comesOf_54 : decode cX10_comesOf 54 = .ok (.getfield 47, 3) := by decide +kernel
theorem dX10_comesOf_57 : decode cX10_comesOf 57 = .ok (.iconst 2, 1) := by decide +kernel
theorem dX10_comesOf_58 : decode cX10_comesOf 58 = .ok (.iload 10, 2) := by decide +kernel
theorem dX10_comesOf_60 : decode cX10_comesOf 60 = .ok (.iastore, 1) := by decide +kernel
theorem dX10_comesOf_61 : decode cX10_comesOf 61 = .ok (.aload_n 0, 1) := by decide +kernel
theorem dX10_comesOf_62 : decode cX10_comesOf 62 = .ok (.aload_n 1, 1) := by decide +kernel
theorem dX10_comesOf_63 : decode cX10_comesOf 63 = .ok (.iload_n 2, 1) := by decide +kernel
theorem dX10_comesOf_64 : decode cX10_comesOf 64 = .ok (.iload_n 3, 1) := by decide +kernel
theorem dX10_comesOf_65 : decode cX10_comesOf 65 = .ok (.aload 4, 2) := by decide +kernel
theorem dX10_comesOf_67 : decode cX10_comesOf 67 = .ok (.iload 5, 2) := by decide +kernel
theorem dX10_comesOf_69 : decode cX10_comesOf 69 = .ok (.iload 6, 2) := by decide +kernel
theorem dX10_comesOf_71 : decode cX10_comesOf 71 = .ok (.invokevirtual 144, 3) := by decide +kernel
theorem dX10_comesOf_74 : decode cX10_comesOf 74 = .ok (.ifCond .eq 5, 3) := by decide +kernel
theorem dX10_comesOf_77 : decode cX10_comesOf 77 = .ok (.iconst 1, 1) := by decide +kernel
theorem dX10_comesOf_78 : decode cX10_comesOf 78 = .ok (.ireturn, 1) := by decide +kernel
theorem dX10_comesOf_79 : decode cX10_comesOf 79 = .ok (.aload_n 1, 1) := by decide +kernel
theorem dX10_comesOf_80 : decode cX10_comesOf 80 = .ok (.iload_n 2, 1) := by decide +kernel
theorem dX10_comesOf_81 : decode cX10_comesOf 81 = .ok (.iload_n 3, 1) := by decide +kernel
theorem dX10_comesOf_82 : decode cX10_comesOf 82 = .ok (.iconst 2, 1) := by decide +kernel
theorem dX10_comesOf_83 : decode cX10_comesOf 83 = .ok (.invokestatic 147, 3) := by decide +kernel
theorem dX10_comesOf_86 : decode cX10_comesOf 86 = .ok (.ifCond .ne 6, 3) := by decide +kernel
theorem dX10_comesOf_89 : decode cX10_comesOf 89 = .ok (.goto 9, 3) := by decide +kernel
theorem dX10_comesOf_92 : decode cX10_comesOf 92 = .ok (.iinc 10 1, 3) := by decide +kernel
theorem dX10_comesOf_95 : decode cX10_comesOf 95 = .ok (.goto (-65), 3) := by decide +kernel
theorem dX10_comesOf_98 : decode cX10_comesOf 98 = .ok (.aload_n 1, 1) := by decide +kernel
theorem dX10_comesOf_99 : decode cX10_comesOf 99 = .ok (.iload_n 2, 1) := by decide +kernel
theorem dX10_comesOf_100 : decode cX10_comesOf 100 = .ok (.iload_n 3, 1) := by decide +kernel
theorem dX10_comesOf_101 : decode cX10_comesOf 101 = .ok (.iconst 1, 1) := by decide +kernel
theorem dX10_comesOf_102 : decode cX10_comesOf 102 = .ok (.invokestatic 147, 3) := by decide +kernel
theorem dX10_comesOf_105 : decode cX10_comesOf 105 = .ok (.ifCond .ne 6, 3) := by decide +kernel
theorem dX10_comesOf_108 : decode cX10_comesOf 108 = .ok (.goto 9, 3) := by decide +kernel
theorem dX10_comesOf_111 : decode cX10_comesOf 111 = .ok (.iinc 9 1, 3) := by decide +kernel
theorem dX10_comesOf_114 : decode cX10_comesOf 114 = .ok (.goto (-94), 3) := by decide +kernel
theorem dX10_comesOf_117 : decode cX10_comesOf 117 = .ok (.aload_n 1, 1) := by decide +kernel
theorem dX10_comesOf_118 : decode cX10_comesOf 118 = .ok (.iload_n 2, 1) := by decide +kernel
theorem dX10_comesOf_119 : decode cX10_comesOf 119 = .ok (.iload_n 3, 1) := by decide +kernel
theorem dX10_comesOf_120 : decode cX10_comesOf 120 = .ok (.iconst 0, 1) := by decide +kernel
theorem dX10_comesOf_121 : decode cX10_comesOf 121 = .ok (.invokestatic 147, 3) := by decide +kernel
theorem dX10_comesOf_124 : decode cX10_comesOf 124 = .ok (.ifCond .ne 6, 3) := by decide +kernel
theorem dX10_comesOf_127 : decode cX10_comesOf 127 = .ok (.goto 9, 3) := by decide +kernel
theorem dX10_comesOf_130 : decode cX10_comesOf 130 = .ok (.iinc 8 1, 3) := by decide +kernel
theorem dX10_comesOf_133 : decode cX10_comesOf 133 = .ok (.goto (-123), 3) := by decide +kernel
theorem dX10_comesOf_136 : decode cX10_comesOf 136 = .ok (.iconst 0, 1) := by decide +kernel
theorem dX10_comesOf_137 : decode cX10_comesOf 137 = .ok (.ireturn, 1) := by decide +kernel
theorem dX10_has_0 : decode cX10_has 0 = .ok (.iconst 0, 1) := by decide +kernel
theorem dX10_has_1 : decode cX10_has 1 = .ok (.istore 4, 2) := by decide +kernel
theorem dX10_has_3 : decode cX10_has 3 = .ok (.iload 4, 2) := by decide +kernel
theorem dX10_has_5 : decode cX10_has 5 = .ok (.iload_n 2, 1) := by decide +kernel
theorem dX10_has_6 : decode cX10_has 6 = .ok (.if_icmp .ge 21, 3) := by decide +kernel
theorem dX10_has_9 : decode cX10_has 9 = .ok (.aload_n 0, 1) := by decide +kernel
theorem dX10_has_10 : decode cX10_has 10 = .ok (.iload_n 1, 1) := by decide +kernel
theorem dX10_has_11 : decode cX10_has 11 = .ok (.iload 4, 2) := by decide +kernel
theorem dX10_has_13 : decode cX10_has 13 = .ok (.iadd, 1) := by decide +kernel
theorem dX10_has_14 : decode cX10_has 14 = .ok (.iaload, 1) := by decide +kernel
theorem dX10_has_15 : decode cX10_has 15 = .ok (.iload_n 3, 1) := by decide +kernel
theorem dX10_has_16 : decode cX10_has 16 = .ok (.if_icmp .ne 5, 3) := by decide +kernel
theorem dX10_has_19 : decode cX10_has 19 = .ok (.iconst 1, 1) := by decide +kernel
theorem dX10_has_20 : decode cX10_has 20 = .ok (.ireturn, 1) := by decide +kernel
theorem dX10_has_21 : decode cX10_has 21 = .ok (.iinc 4 1, 3) := by decide +kernel
theorem dX10_has_24 : decode cX10_has 24 = .ok (.goto (-21), 3) := by decide +kernel
theorem dX10_has_27 : decode cX10_has 27 = .ok (.iconst 0, 1) := by decide +kernel
theorem dX10_has_28 : decode cX10_has 28 = .ok (.ireturn, 1) := by decide +kernel
theorem dX10_fits_0 : decode cX10_fits 0 = .ok (.iconst 0, 1) := by decide +kernel
theorem dX10_fits_1 : decode cX10_fits 1 = .ok (.istore 7, 2) := by decide +kernel
theorem dX10_fits_3 : decode cX10_fits 3 = .ok (.iconst 0, 1) := by decide +kernel
theorem dX10_fits_4 : decode cX10_fits 4 = .ok (.istore 8, 2) := by decide +kernel
theorem dX10_fits_6 : decode cX10_fits 6 = .ok (.iload 8, 2) := by decide +kernel
theorem dX10_fits_8 : decode cX10_fits 8 = .ok (.iload_n 3, 1) := by decide +kernel
theorem dX10_fits_9 : decode cX10_fits 9 = .ok (.if_icmp .ge 25, 3) := by decide +kernel
theorem dX10_fits_12 : decode cX10_fits 12 = .ok (.iload 7, 2) := by decide +kernel
theorem dX10_fits_14 : decode cX10_fits 14 = .ok (.aload_n 0, 1) := by decide +kernel
theorem dX10_fits_15 : decode cX10_fits 15 = .ok (.getfield 47, 3) := by decide +kernel
theorem dX10_fits_18 : decode cX10_fits 18 = .ok (.aload_n 1, 1) := by decide +kernel
theorem dX10_fits_19 : decode cX10_fits 19 = .ok (.iload_n 2, 1) := by decide +kernel
theorem dX10_fits_20 : decode cX10_fits 20 = .ok (.iload 8, 2) := by decide +kernel
theorem dX10_fits_22 : decode cX10_fits 22 = .ok (.iadd, 1) := by decide +kernel
theorem dX10_fits_23 : decode cX10_fits 23 = .ok (.iaload, 1) := by decide +kernel
theorem dX10_fits_24 : decode cX10_fits 24 = .ok (.iaload, 1) := by decide +kernel
theorem dX10_fits_25 : decode cX10_fits 25 = .ok (.iadd, 1) := by decide +kernel
theorem dX10_fits_26 : decode cX10_fits 26 = .ok (.istore 7, 2) := by decide +kernel
theorem dX10_fits_28 : decode cX10_fits 28 = .ok (.iinc 8 1, 3) := by decide +kernel
theorem dX10_fits_31 : decode cX10_fits 31 = .ok (.goto (-25), 3) := by decide +kernel
theorem dX10_fits_34 : decode cX10_fits 34 = .ok (.iload 7, 2) := by decide +kernel
theorem dX10_fits_36 : decode cX10_fits 36 = .ok (.iload 6, 2) := by decide +kernel
theorem dX10_fits_38 : decode cX10_fits 38 = .ok (.iload 5, 2) := by decide +kernel
theorem dX10_fits_40 : decode cX10_fits 40 = .ok (.isub, 1) := by decide +kernel
theorem dX10_fits_41 : decode cX10_fits 41 = .ok (.if_icmp .eq 5, 3) := by decide +kernel
theorem dX10_fits_44 : decode cX10_fits 44 = .ok (.iconst 0, 1) := by decide +kernel
theorem dX10_fits_45 : decode cX10_fits 45 = .ok (.ireturn, 1) := by decide +kernel
theorem dX10_fits_46 : decode cX10_fits 46 = .ok (.iconst 0, 1) := by decide +kernel
theorem dX10_fits_47 : decode cX10_fits 47 = .ok (.istore 8, 2) := by decide +kernel
theorem dX10_fits_49 : decode cX10_fits 49 = .ok (.iload 8, 2) := by decide +kernel
theorem dX10_fits_51 : decode cX10_fits 51 = .ok (.iconst 3, 1) := by decide +kernel
theorem dX10_fits_52 : decode cX10_fits 52 = .ok (.if_icmp .ge 17, 3) := by decide +kernel
theorem dX10_fits_55 : decode cX10_fits 55 = .ok (.aload_n 0, 1) := by decide +kernel
theorem dX10_fits_56 : decode cX10_fits 56 = .ok (.getfield 44, 3) := by decide +kernel
theorem dX10_fits_59 : decode cX10_fits 59 = .ok (.iload 8, 2) := by decide +kernel
theorem dX10_fits_61 : decode cX10_fits 61 = .ok (.iconst (-1), 1) := by decide +kernel
theorem dX10_fits_62 : decode cX10_fits 62 = .ok (.iastore, 1) := by decide +kernel
theorem dX10_fits_63 : decode cX10_fits 63 = .ok (.iinc 8 1, 3) := by decide +kernel
theorem dX10_fits_66 : decode cX10_fits 66 = .ok (.goto (-17), 3) := by decide +kernel
theorem dX10_fits_69 : decode cX10_fits 69 = .ok (.iload 5, 2) := by decide +kernel
theorem dX10_fits_71 : decode cX10_fits 71 = .ok (.istore 8, 2) := by decide +kernel
theorem dX10_fits_73 : decode cX10_fits 73 = .ok (.iconst 0, 1) := by decide +kernel
theorem dX10_fits_74 : decode cX10_fits 74 = .ok (.istore 9, 2) := by decide +kernel
theorem dX10_fits_76 : decode cX10_fits 76 = .ok (.iload 9, 2) := by decide +kernel
theorem dX10_fits_78 : decode cX10_fits 78 = .ok (.iload_n 3, 1) := by decide +kernel
theorem dX10_fits_79 : decode cX10_fits 79 = .ok (.if_icmp .ge 96, 3) := by decide +kernel
theorem dX10_fits_82 : decode cX10_fits 82 = .ok (.aload_n 1, 1) := by decide +kernel
theorem dX10_fits_83 : decode cX10_fits 83 = .ok (.iload_n 2, 1) := by decide +kernel
theorem dX10_fits_84 : decode cX10_fits 84 = .ok (.iload 9, 2) := by decide +kernel
theorem dX10_fits_86 : decode cX10_fits 86 = .ok (.iadd, 1) := by decide +kernel
theorem dX10_fits_87 : decode cX10_fits 87 = .ok (.iaload, 1) := by decide +kernel
theorem dX10_fits_88 : decode cX10_fits 88 = .ok (.istore 10, 2) := by decide +kernel
theorem dX10_fits_90 : decode cX10_fits 90 = .ok (.aload_n 0, 1) := by decide +kernel
theorem dX10_fits_91 : decode cX10_fits 91 = .ok (.getfield 44, 3) := by decide +kernel
theorem dX10_fits_94 : decode cX10_fits 94 = .ok (.iload 10, 2) := by decide +kernel
theorem dX10_fits_96 : decode cX10_fits 96 = .ok (.iaload, 1) := by decide +kernel
theorem dX10_fits_97 : decode cX10_fits 97 = .ok (.iconst (-1), 1) := by decide +kernel
theorem dX10_fits_98 : decode cX10_fits 98 = .ok (.if_icmp .ne 12, 3) := by decide +kernel
theorem dX10_fits_101 : decode cX10_fits 101 = .ok (.aload_n 0, 1) := by decide +kernel
theorem dX10_fits_102 : decode cX10_fits 102 = .ok (.getfield 44, 3) := by decide +kernel
theorem dX10_fits_105 : decode cX10_fits 105 = .ok (.iload 10, 2) := by decide +kernel
theorem dX10_fits_107 : decode cX10_fits 107 = .ok (.iload 8, 2) := by decide +kernel
theorem dX10_fits_109 : decode cX10_fits 109 = .ok (.iastore, 1) := by decide +kernel
theorem dX10_fits_110 : decode cX10_fits 110 = .ok (.iconst 0, 1) := by decide +kernel
theorem dX10_fits_111 : decode cX10_fits 111 = .ok (.istore 11, 2) := by decide +kernel
theorem dX10_fits_113 : decode cX10_fits 113 = .ok (.iload 11, 2) := by decide +kernel
theorem dX10_fits_115 : decode cX10_fits 115 = .ok (.aload_n 0, 1) := by decide +kernel
theorem dX10_fits_116 : decode cX10_fits 116 = .ok (.getfield 47, 3) := by decide +kernel
theorem dX10_fits_119 : decode cX10_fits 119 = .ok (.iload 10, 2) := by decide +kernel
theorem dX10_fits_121 : decode cX10_fits 121 = .ok (.iaload, 1) := by decide +kernel
theorem dX10_fits_122 : decode cX10_fits 122 = .ok (.if_icmp .ge 35, 3) := by decide +kernel
theorem dX10_fits_125 : decode cX10_fits 125 = .ok (.aload 4, 2) := by decide +kernel
theorem dX10_fits_127 : decode cX10_fits 127 = .ok (.aload_n 0, 1) := by decide +kernel
theorem dX10_fits_128 : decode cX10_fits 128 = .ok (.getfield 44, 3) := by decide +kernel
theorem dX10_fits_131 : decode cX10_fits 131 = .ok (.iload 10, 2) := by decide +kernel
theorem dX10_fits_133 : decode cX10_fits 133 = .ok (.iaload, 1) := by decide +kernel
theorem dX10_fits_134 : decode cX10_fits 134 = .ok (.iload 11, 2) := by decide +kernel
theorem dX10_fits_136 : decode cX10_fits 136 = .ok (.iadd, 1) := by decide +kernel
theorem dX10_fits_137 : decode cX10_fits 137 = .ok (.iaload, 1) := by decide +kernel
theorem dX10_fits_138 : decode cX10_fits 138 = .ok (.aload 4, 2) := by decide +kernel
theorem dX10_fits_140 : decode cX10_fits 140 = .ok (.iload 8, 2) := by decide +kernel
theorem dX10_fits_142 : decode cX10_fits 142 = .ok (.iload 11, 2) := by decide +kernel
theorem dX10_fits_144 : decode cX10_fits 144 = .ok (.iadd, 1) := by decide +kernel
theorem dX10_fits_145 : decode cX10_fits 145 = .ok (.iaload, 1) := by decide +kernel
theorem dX10_fits_146 : decode cX10_fits 146 = .ok (.if_icmp .eq 5, 3) := by decide +kernel
theorem dX10_fits_149 : decode cX10_fits 149 = .ok (.iconst 0, 1) := by decide +kernel
theorem dX10_fits_150 : decode cX10_fits 150 = .ok (.ireturn, 1) := by decide +kernel
theorem dX10_fits_151 : decode cX10_fits 151 = .ok (.iinc 11 1, 3) := by decide +kernel
theorem dX10_fits_154 : decode cX10_fits 154 = .ok (.goto (-41), 3) := by decide +kernel
theorem dX10_fits_157 : decode cX10_fits 157 = .ok (.iload 8, 2) := by decide +kernel
theorem dX10_fits_159 : decode cX10_fits 159 = .ok (.aload_n 0, 1) := by decide +kernel
theorem dX10_fits_160 : decode cX10_fits 160 = .ok (.getfield 47, 3) := by decide +kernel
theorem dX10_fits_163 : decode cX10_fits 163 = .ok (.iload 10, 2) := by decide +kernel
theorem dX10_fits_165 : decode cX10_fits 165 = .ok (.iaload, 1) := by decide +kernel
theorem dX10_fits_166 : decode cX10_fits 166 = .ok (.iadd, 1) := by decide +kernel
theorem dX10_fits_167 : decode cX10_fits 167 = .ok (.istore 8, 2) := by decide +kernel
theorem dX10_fits_169 : decode cX10_fits 169 = .ok (.iinc 9 1, 3) := by decide +kernel
theorem dX10_fits_172 : decode cX10_fits 172 = .ok (.goto (-96), 3) := by decide +kernel
theorem dX10_fits_175 : decode cX10_fits 175 = .ok (.iconst 1, 1) := by decide +kernel
theorem dX10_fits_176 : decode cX10_fits 176 = .ok (.ireturn, 1) := by decide +kernel
theorem dX10_isIn_0 : decode cX10_isIn 0 = .ok (.iload_n 0, 1) := by decide +kernel
theorem dX10_isIn_1 : decode cX10_isIn 1 = .ok (.iload_n 1, 1) := by decide +kernel
theorem dX10_isIn_2 : decode cX10_isIn 2 = .ok (.ishr, 1) := by decide +kernel
theorem dX10_isIn_3 : decode cX10_isIn 3 = .ok (.iconst 1, 1) := by decide +kernel
theorem dX10_isIn_4 : decode cX10_isIn 4 = .ok (.iand, 1) := by decide +kernel
theorem dX10_isIn_5 : decode cX10_isIn 5 = .ok (.iconst 1, 1) := by decide +kernel
theorem dX10_isIn_6 : decode cX10_isIn 6 = .ok (.if_icmp .ne 7, 3) := by decide +kernel
theorem dX10_isIn_9 : decode cX10_isIn 9 = .ok (.iconst 1, 1) := by decide +kernel
theorem dX10_isIn_10 : decode cX10_isIn 10 = .ok (.goto 4, 3) := by decide +kernel
theorem dX10_isIn_13 : decode cX10_isIn 13 = .ok (.iconst 0, 1) := by decide +kernel
theorem dX10_isIn_14 : decode cX10_isIn 14 = .ok (.ireturn, 1) := by decide +kernel
theorem dX10_keepsLast_0 : decode cX10_keepsLast 0 = .ok (.iconst 0, 1) := by decide +kernel
theorem dX10_keepsLast_1 : decode cX10_keepsLast 1 = .ok (.istore 4, 2) := by decide +kernel
theorem dX10_keepsLast_3 : decode cX10_keepsLast 3 = .ok (.iload 4, 2) := by decide +kernel
theorem dX10_keepsLast_5 : decode cX10_keepsLast 5 = .ok (.aload_n 0, 1) := by decide +kernel
theorem dX10_keepsLast_6 : decode cX10_keepsLast 6 = .ok (.getfield 122, 3) := by decide +kernel
theorem dX10_keepsLast_9 : decode cX10_keepsLast 9 = .ok (.if_icmp .ge 48, 3) := by decide +kernel
theorem dX10_keepsLast_12 : decode cX10_keepsLast 12 = .ok (.iload_n 1, 1) := by decide +kernel
theorem dX10_keepsLast_13 : decode cX10_keepsLast 13 = .ok (.iload 4, 2) := by decide +kernel
theorem dX10_keepsLast_15 : decode cX10_keepsLast 15 = .ok (.invokestatic 150, 3) := by decide +kernel
theorem dX10_keepsLast_18 : decode cX10_keepsLast 18 = .ok (.ifCond .eq 33, 3) := by decide +kernel
theorem dX10_keepsLast_21 : decode cX10_keepsLast 21 = .ok (.iconst 0, 1) := by decide +kernel
theorem dX10_keepsLast_22 : decode cX10_keepsLast 22 = .ok (.istore 5, 2) := by decide +kernel
theorem dX10_keepsLast_24 : decode cX10_keepsLast 24 = .ok (.iload 5, 2) := by decide +kernel
theorem dX10_keepsLast_26 : decode cX10_keepsLast 26 = .ok (.iload_n 3, 1) := by decide +kernel
theorem dX10_keepsLast_27 : decode cX10_keepsLast 27 = .ok (.if_icmp .ge 24, 3) := by decide +kernel
theorem dX10_keepsLast_30 : decode cX10_keepsLast 30 = .ok (.aload_n 0, 1) := by decide +kernel
theorem dX10_keepsLast_31 : decode cX10_keepsLast 31 = .ok (.iload 4, 2) := by decide +kernel
theorem dX10_keepsLast_33 : decode cX10_keepsLast 33 = .ok (.aload_n 2, 1) := by decide +kernel
theorem dX10_keepsLast_34 : decode cX10_keepsLast 34 = .ok (.iload 5, 2) := by decide +kernel
theorem dX10_keepsLast_36 : decode cX10_keepsLast 36 = .ok (.iload_n 3, 1) := by decide +kernel
theorem dX10_keepsLast_37 : decode cX10_keepsLast 37 = .ok (.invokevirtual 153, 3) := by decide +kernel
theorem dX10_keepsLast_40 : decode cX10_keepsLast 40 = .ok (.ifCond .eq 5, 3) := by decide +kernel
theorem dX10_keepsLast_43 : decode cX10_keepsLast 43 = .ok (.iconst 0, 1) := by decide +kernel
theorem dX10_keepsLast_44 : decode cX10_keepsLast 44 = .ok (.ireturn, 1) := by decide +kernel
theorem dX10_keepsLast_45 : decode cX10_keepsLast 45 = .ok (.iinc 5 1, 3) := by decide +kernel
theorem dX10_keepsLast_48 : decode cX10_keepsLast 48 = .ok (.goto (-24), 3) := by decide +kernel
theorem dX10_keepsLast_51 : decode cX10_keepsLast 51 = .ok (.iinc 4 1, 3) := by decide +kernel
theorem dX10_keepsLast_54 : decode cX10_keepsLast 54 = .ok (.goto (-51), 3) := by decide +kernel
theorem dX10_keepsLast_57 : decode cX10_keepsLast 57 = .ok (.iconst 1, 1) := by decide +kernel
theorem dX10_keepsLast_58 : decode cX10_keepsLast 58 = .ok (.ireturn, 1) := by decide +kernel
theorem dX10_isSet_0 : decode cX10_isSet 0 = .ok (.iload_n 1, 1) := by decide +kernel
theorem dX10_isSet_1 : decode cX10_isSet 1 = .ok (.ifCond .lt 16, 3) := by decide +kernel
theorem dX10_isSet_4 : decode cX10_isSet 4 = .ok (.iload_n 1, 1) := by decide +kernel
theorem dX10_isSet_5 : decode cX10_isSet 5 = .ok (.aload_n 0, 1) := by decide +kernel
theorem dX10_isSet_6 : decode cX10_isSet 6 = .ok (.getfield 122, 3) := by decide +kernel
theorem dX10_isSet_9 : decode cX10_isSet 9 = .ok (.ishr, 1) := by decide +kernel
theorem dX10_isSet_10 : decode cX10_isSet 10 = .ok (.ifCond .ne 7, 3) := by decide +kernel
theorem dX10_isSet_13 : decode cX10_isSet 13 = .ok (.iconst 1, 1) := by decide +kernel
theorem dX10_isSet_14 : decode cX10_isSet 14 = .ok (.goto 4, 3) := by decide +kernel
theorem dX10_isSet_17 : decode cX10_isSet 17 = .ok (.iconst 0, 1) := by decide +kernel
theorem dX10_isSet_18 : decode cX10_isSet 18 = .ok (.ireturn, 1) := by decide +kernel
theorem dX10_power_0 : decode cX10_power 0 = .ok (.aload_n 0, 1) := by decide +kernel
theorem dX10_power_1 : decode cX10_power 1 = .ok (.iconst 0, 1) := by decide +kernel
theorem dX10_power_2 : decode cX10_power 2 = .ok (.putfield 1, 3) := by decide +kernel
theorem dX10_power_5 : decode cX10_power 5 = .ok (.aload_n 0, 1) := by decide +kernel
theorem dX10_power_6 : decode cX10_power 6 = .ok (.iload_n 1, 1) := by decide +kernel
theorem dX10_power_7 : decode cX10_power 7 = .ok (.iload_n 2, 1) := by decide +kernel
theorem dX10_power_8 : decode cX10_power 8 = .ok (.iconst 1, 1) := by decide +kernel
theorem dX10_power_9 : decode cX10_power 9 = .ok (.invokevirtual 111, 3) := by decide +kernel
theorem dX10_power_12 : decode cX10_power 12 = .ok (.ifCond .eq 25, 3) := by decide +kernel
theorem dX10_power_15 : decode cX10_power 15 = .ok (.aload_n 0, 1) := by decide +kernel
theorem dX10_power_16 : decode cX10_power 16 = .ok (.iload_n 3, 1) := by decide +kernel
theorem dX10_power_17 : decode cX10_power 17 = .ok (.ifCond .lt 12, 3) := by decide +kernel
theorem dX10_power_20 : decode cX10_power 20 = .ok (.iload_n 3, 1) := by decide +kernel
theorem dX10_power_21 : decode cX10_power 21 = .ok (.iconst 3, 1) := by decide +kernel
theorem dX10_power_22 : decode cX10_power 22 = .ok (.if_icmp .gt 7, 3) := by decide +kernel
theorem dX10_power_25 : decode cX10_power 25 = .ok (.iconst 1, 1) := by decide +kernel
theorem dX10_power_26 : decode cX10_power 26 = .ok (.goto 4, 3) := by decide +kernel
theorem dX10_power_29 : decode cX10_power 29 = .ok (.iconst 0, 1) := by decide +kernel
theorem dX10_power_30 : decode cX10_power 30 = .ok (.iconst 2, 1) := by decide +kernel
theorem dX10_power_31 : decode cX10_power 31 = .ok (.invokevirtual 100, 3) := by decide +kernel
theorem dX10_power_34 : decode cX10_power 34 = .ok (.ifCond .ne 5, 3) := by decide +kernel
theorem dX10_power_37 : decode cX10_power 37 = .ok (.iconst 0, 1) := by decide +kernel
theorem dX10_power_38 : decode cX10_power 38 = .ok (.ireturn, 1) := by decide +kernel
theorem dX10_power_39 : decode cX10_power 39 = .ok (.aload_n 0, 1) := by decide +kernel
theorem dX10_power_40 : decode cX10_power 40 = .ok (.iload_n 1, 1) := by decide +kernel
theorem dX10_power_41 : decode cX10_power 41 = .ok (.iload_n 2, 1) := by decide +kernel
theorem dX10_power_42 : decode cX10_power 42 = .ok (.invokevirtual 118, 3) := by decide +kernel
theorem dX10_power_45 : decode cX10_power 45 = .ok (.ifCond .ne 5, 3) := by decide +kernel
theorem dX10_power_48 : decode cX10_power 48 = .ok (.iconst (-1), 1) := by decide +kernel
theorem dX10_power_49 : decode cX10_power 49 = .ok (.ireturn, 1) := by decide +kernel
theorem dX10_power_50 : decode cX10_power 50 = .ok (.aload_n 0, 1) := by decide +kernel
theorem dX10_power_51 : decode cX10_power 51 = .ok (.getfield 115, 3) := by decide +kernel
theorem dX10_power_54 : decode cX10_power 54 = .ok (.ifCond .ne 5, 3) := by decide +kernel
theorem dX10_power_57 : decode cX10_power 57 = .ok (.iconst 0, 1) := by decide +kernel
theorem dX10_power_58 : decode cX10_power 58 = .ok (.ireturn, 1) := by decide +kernel
theorem dX10_power_59 : decode cX10_power 59 = .ok (.aload_n 0, 1) := by decide +kernel
theorem dX10_power_60 : decode cX10_power 60 = .ok (.getfield 23, 3) := by decide +kernel
theorem dX10_power_63 : decode cX10_power 63 = .ok (.iconst 0, 1) := by decide +kernel
theorem dX10_power_64 : decode cX10_power 64 = .ok (.aload_n 0, 1) := by decide +kernel
theorem dX10_power_65 : decode cX10_power 65 = .ok (.getfield 115, 3) := by decide +kernel
theorem dX10_power_68 : decode cX10_power 68 = .ok (.invokestatic 132, 3) := by decide +kernel
theorem dX10_power_71 : decode cX10_power 71 = .ok (.istore 4, 2) := by decide +kernel
theorem dX10_power_73 : decode cX10_power 73 = .ok (.aload_n 0, 1) := by decide +kernel
theorem dX10_power_74 : decode cX10_power 74 = .ok (.getfield 115, 3) := by decide +kernel
theorem dX10_power_77 : decode cX10_power 77 = .ok (.iload 4, 2) := by decide +kernel
theorem dX10_power_79 : decode cX10_power 79 = .ok (.invokestatic 157, 3) := by decide +kernel
theorem dX10_power_82 : decode cX10_power 82 = .ok (.istore 5, 2) := by decide +kernel
theorem dX10_power_84 : decode cX10_power 84 = .ok (.iload_n 3, 1) := by decide +kernel
theorem dX10_power_85 : decode cX10_power 85 = .ok (.iconst 3, 1) := by decide +kernel
theorem dX10_power_86 : decode cX10_power 86 = .ok (.if_icmp .ne 12, 3) := by decide +kernel
theorem dX10_power_89 : decode cX10_power 89 = .ok (.aload_n 0, 1) := by decide +kernel
theorem dX10_power_90 : decode cX10_power 90 = .ok (.invokevirtual 161, 3) := by decide +kernel
theorem dX10_power_93 : decode cX10_power 93 = .ok (.aload_n 0, 1) := by decide +kernel
theorem dX10_power_94 : decode cX10_power 94 = .ok (.getfield 164, 3) := by decide +kernel
theorem dX10_power_97 : decode cX10_power 97 = .ok (.ireturn, 1) := by decide +kernel
theorem dX10_power_98 : decode cX10_power 98 = .ok (.iload_n 3, 1) := by decide +kernel
theorem dX10_power_99 : decode cX10_power 99 = .ok (.ifCond .ne 8, 3) := by decide +kernel
theorem dX10_power_102 : decode cX10_power 102 = .ok (.iload 4, 2) := by decide +kernel
theorem dX10_power_104 : decode cX10_power 104 = .ok (.goto 23, 3) := by decide +kernel
theorem dX10_power_107 : decode cX10_power 107 = .ok (.iload_n 3, 1) := by decide +kernel
theorem dX10_power_108 : decode cX10_power 108 = .ok (.iconst 1, 1) := by decide +kernel
theorem dX10_power_109 : decode cX10_power 109 = .ok (.if_icmp .ne 13, 3) := by decide +kernel
theorem dX10_power_112 : decode cX10_power 112 = .ok (.aload_n 0, 1) := by decide +kernel
theorem dX10_power_113 : decode cX10_power 113 = .ok (.getfield 115, 3) := by decide +kernel
theorem dX10_power_116 : decode cX10_power 116 = .ok (.iload 5, 2) := by decide +kernel
theorem dX10_power_118 : decode cX10_power 118 = .ok (.idiv, 1) := by decide +kernel
theorem dX10_power_119 : decode cX10_power 119 = .ok (.goto 8, 3) := by decide +kernel
theorem dX10_power_122 : decode cX10_power 122 = .ok (.iload 4, 2) := by decide +kernel
theorem dX10_power_124 : decode cX10_power 124 = .ok (.iload 5, 2) := by decide +kernel
theorem dX10_power_126 : decode cX10_power 126 = .ok (.idiv, 1) := by decide +kernel
theorem dX10_power_127 : decode cX10_power 127 = .ok (.ireturn, 1) := by decide +kernel
theorem dX10_gcd_0 : decode cX10_gcd 0 = .ok (.iload_n 0, 1) := by decide +kernel
theorem dX10_gcd_1 : decode cX10_gcd 1 = .ok (.istore_n 2, 1) := by decide +kernel
theorem dX10_gcd_2 : decode cX10_gcd 2 = .ok (.iload_n 1, 1) := by decide +kernel
theorem dX10_gcd_3 : decode cX10_gcd 3 = .ok (.istore_n 3, 1) := by decide +kernel
theorem dX10_gcd_4 : decode cX10_gcd 4 = .ok (.iload_n 3, 1) := by decide +kernel
theorem dX10_gcd_5 : decode cX10_gcd 5 = .ok (.ifCond .eq 16, 3) := by decide +kernel
theorem dX10_gcd_8 : decode cX10_gcd 8 = .ok (.iload_n 2, 1) := by decide +kernel
theorem dX10_gcd_9 : decode cX10_gcd 9 = .ok (.iload_n 3, 1) := by decide +kernel
theorem dX10_gcd_10 : decode cX10_gcd 10 = .ok (.irem, 1) := by decide +kernel
theorem dX10_gcd_11 : decode cX10_gcd 11 = .ok (.istore 4, 2) := by decide +kernel
theorem dX10_gcd_13 : decode cX10_gcd 13 = .ok (.iload_n 3, 1) := by decide +kernel
theorem dX10_gcd_14 : decode cX10_gcd 14 = .ok (.istore_n 2, 1) := by decide +kernel
theorem dX10_gcd_15 : decode cX10_gcd 15 = .ok (.iload 4, 2) := by decide +kernel
theorem dX10_gcd_17 : decode cX10_gcd 17 = .ok (.istore_n 3, 1) := by decide +kernel
theorem dX10_gcd_18 : decode cX10_gcd 18 = .ok (.goto (-14), 3) := by decide +kernel
theorem dX10_gcd_21 : decode cX10_gcd 21 = .ok (.iload_n 2, 1) := by decide +kernel
theorem dX10_gcd_22 : decode cX10_gcd 22 = .ok (.ireturn, 1) := by decide +kernel
theorem dX10_findRuns_0 : decode cX10_findRuns 0 = .ok (.aload_n 0, 1) := by decide +kernel
theorem dX10_findRuns_1 : decode cX10_findRuns 1 = .ok (.iconst 0, 1) := by decide +kernel
theorem dX10_findRuns_2 : decode cX10_findRuns 2 = .ok (.putfield 164, 3) := by decide +kernel
theorem dX10_findRuns_5 : decode cX10_findRuns 5 = .ok (.iconst 0, 1) := by decide +kernel
theorem dX10_findRuns_6 : decode cX10_findRuns 6 = .ok (.istore_n 1, 1) := by decide +kernel
theorem dX10_findRuns_7 : decode cX10_findRuns 7 = .ok (.iload_n 1, 1) := by decide +kernel
theorem dX10_findRuns_8 : decode cX10_findRuns 8 = .ok (.aload_n 0, 1) := by decide +kernel
theorem dX10_findRuns_9 : decode cX10_findRuns 9 = .ok (.getfield 115, 3) := by decide +kernel
theorem dX10_findRuns_12 : decode cX10_findRuns 12 = .ok (.if_icmp .ge 166, 3) := by decide +kernel
theorem dX10_findRuns_15 : decode cX10_findRuns 15 = .ok (.iconst 1, 1) := by decide +kernel
theorem dX10_findRuns_16 : decode cX10_findRuns 16 = .ok (.istore_n 2, 1) := by decide +kernel
theorem dX10_findRuns_17 : decode cX10_findRuns 17 = .ok (.iload_n 1, 1) := by decide +kernel
theorem dX10_findRuns_18 : decode cX10_findRuns 18 = .ok (.iconst 2, 1) := by decide +kernel
theorem dX10_findRuns_19 : decode cX10_findRuns 19 = .ok (.iload_n 2, 1) := by decide +kernel
theorem dX10_findRuns_20 : decode cX10_findRuns 20 = .ok (.imul, 1) := by decide +kernel
theorem dX10_findRuns_21 : decode cX10_findRuns 21 = .ok (.iadd, 1) := by decide +kernel
theorem dX10_findRuns_22 : decode cX10_findRuns 22 = .ok (.aload_n 0, 1) := by decide +kernel
theorem dX10_findRuns_23 : decode cX10_findRuns 23 = .ok (.getfield 115, 3) := by decide +kernel
theorem dX10_findRuns_26 : decode cX10_findRuns 26 = .ok (.if_icmp .gt 146, 3) := by decide +kernel
theorem dX10_findRuns_29 : decode cX10_findRuns 29 = .ok (.iload_n 1, 1) := by decide +kernel
theorem dX10_findRuns_30 : decode cX10_findRuns 30 = .ok (.iload_n 2, 1) := by decide +kernel
theorem dX10_findRuns_31 : decode cX10_findRuns 31 = .ok (.iadd, 1) := by decide +kernel
theorem dX10_findRuns_32 : decode cX10_findRuns 32 = .ok (.istore_n 3, 1) := by decide +kernel
theorem dX10_findRuns_33 : decode cX10_findRuns 33 = .ok (.iload_n 3, 1) := by decide +kernel
theorem dX10_findRuns_34 : decode cX10_findRuns 34 = .ok (.aload_n 0, 1) := by decide +kernel
theorem dX10_findRuns_35 : decode cX10_findRuns 35 = .ok (.getfield 115, 3) := by decide +kernel
theorem dX10_findRuns_38 : decode cX10_findRuns 38 = .ok (.if_icmp .ge 26, 3) := by decide +kernel
theorem dX10_findRuns_41 : decode cX10_findRuns 41 = .ok (.aload_n 0, 1) := by decide +kernel
theorem dX10_findRuns_42 : decode cX10_findRuns 42 = .ok (.getfield 23, 3) := by decide +kernel
theorem dX10_findRuns_45 : decode cX10_findRuns 45 = .ok (.iload_n 3, 1) := by decide +kernel
theorem dX10_findRuns_46 : decode cX10_findRuns 46 = .ok (.iaload, 1) := by decide +kernel
theorem dX10_findRuns_47 : decode cX10_findRuns 47 = .ok (.aload_n 0, 1) := by decide +kernel
theorem dX10_findRuns_48 : decode cX10_findRuns 48 = .ok (.getfield 23, 3) := by decide +kernel
theorem dX10_findRuns_51 : decode cX10_findRuns 51 = .ok (.iload_n 3, 1) := by decide +kernel
theorem dX10_findRuns_52 : decode cX10_findRuns 52 = .ok (.iload_n 2, 1) := by decide +kernel
theorem dX10_findRuns_53 : decode cX10_findRuns 53 = .ok (.isub, 1) := by decide +kernel
theorem dX10_findRuns_54 : decode cX10_findRuns 54 = .ok (.iaload, 1) := by decide +kernel
theorem dX10_findRuns_55 : decode cX10_findRuns 55 = .ok (.if_icmp .ne 9, 3) := by decide +kernel
theorem dX10_findRuns_58 : decode cX10_findRuns 58 = .ok (.iinc 3 1, 3) := by decide +kernel
theorem dX10_findRuns_61 : decode cX10_findRuns 61 = .ok (.goto (-28), 3) := by decide +kernel
theorem dX10_findRuns_64 : decode cX10_findRuns 64 = .ok (.iload_n 3, 1) := by decide +kernel
theorem dX10_findRuns_65 : decode cX10_findRuns 65 = .ok (.iload_n 1, 1) := by decide +kernel
theorem dX10_findRuns_66 : decode cX10_findRuns 66 = .ok (.isub, 1) := by decide +kernel
theorem dX10_findRuns_67 : decode cX10_findRuns 67 = .ok (.iconst 2, 1) := by decide +kernel
theorem dX10_findRuns_68 : decode cX10_findRuns 68 = .ok (.iload_n 2, 1) := by decide +kernel
theorem dX10_findRuns_69 : decode cX10_findRuns 69 = .ok (.imul, 1) := by decide +kernel
theorem dX10_findRuns_70 : decode cX10_findRuns 70 = .ok (.if_icmp .lt 45, 3) := by decide +kernel
theorem dX10_findRuns_73 : decode cX10_findRuns 73 = .ok (.iload_n 1, 1) := by decide +kernel
theorem dX10_findRuns_74 : decode cX10_findRuns 74 = .ok (.ifCond .eq 24, 3) := by decide +kernel
theorem dX10_findRuns_77 : decode cX10_findRuns 77 = .ok (.aload_n 0, 1) := by decide +kernel
theorem dX10_findRuns_78 : decode cX10_findRuns 78 = .ok (.getfield 23, 3) := by decide +kernel
theorem dX10_findRuns_81 : decode cX10_findRuns 81 = .ok (.iload_n 1, 1) := by decide +kernel
theorem dX10_findRuns_82 : decode cX10_findRuns 82 = .ok (.iconst 1, 1) := by decide +kernel
theorem dX10_findRuns_83 : decode cX10_findRuns 83 = .ok (.isub, 1) := by decide +kernel
theorem dX10_findRuns_84 : decode cX10_findRuns 84 = .ok (.iaload, 1) := by decide +kernel
theorem dX10_findRuns_85 : decode cX10_findRuns 85 = .ok (.aload_n 0, 1) := by decide +kernel
theorem dX10_findRuns_86 : decode cX10_findRuns 86 = .ok (.getfield 23, 3) := by decide +kernel
theorem dX10_findRuns_89 : decode cX10_findRuns 89 = .ok (.iload_n 1, 1) := by decide +kernel
theorem dX10_findRuns_90 : decode cX10_findRuns 90 = .ok (.iconst 1, 1) := by decide +kernel
theorem dX10_findRuns_91 : decode cX10_findRuns 91 = .ok (.isub, 1) := by decide +kernel
theorem dX10_findRuns_92 : decode cX10_findRuns 92 = .ok (.iload_n 2, 1) := by decide +kernel
theorem dX10_findRuns_93 : decode cX10_findRuns 93 = .ok (.iadd, 1) := by decide +kernel
theorem dX10_findRuns_94 : decode cX10_findRuns 94 = .ok (.iaload, 1) := by decide +kernel
theorem dX10_findRuns_95 : decode cX10_findRuns 95 = .ok (.if_icmp .eq 20, 3) := by decide +kernel
theorem dX10_findRuns_98 : decode cX10_findRuns 98 = .ok (.aload_n 0, 1) := by decide +kernel
theorem dX10_findRuns_99 : decode cX10_findRuns 99 = .ok (.getfield 23, 3) := by decide +kernel
theorem dX10_findRuns_102 : decode cX10_findRuns 102 = .ok (.iload_n 1, 1) := by decide +kernel
theorem dX10_findRuns_103 : decode cX10_findRuns 103 = .ok (.iload_n 3, 1) := by decide +kernel
theorem dX10_findRuns_104 : decode cX10_findRuns 104 = .ok (.invokestatic 132, 3) := by decide +kernel
theorem dX10_findRuns_107 : decode cX10_findRuns 107 = .ok (.iload_n 2, 1) := by decide +kernel
theorem dX10_findRuns_108 : decode cX10_findRuns 108 = .ok (.if_icmp .ne 7, 3) := by decide +kernel
theorem dX10_findRuns_111 : decode cX10_findRuns 111 = .ok (.iconst 1, 1) := by decide +kernel
theorem dX10_findRuns_112 : decode cX10_findRuns 112 = .ok (.goto 4, 3) := by decide +kernel
theorem dX10_findRuns_115 : decode cX10_findRuns 115 = .ok (.iconst 0, 1) := by decide +kernel
theorem dX10_findRuns_116 : decode cX10_findRuns 116 = .ok (.istore 4, 2) := by decide +kernel
theorem dX10_findRuns_118 : decode cX10_findRuns 118 = .ok (.iload 4, 2) := by decide +kernel
theorem dX10_findRuns_120 : decode cX10_findRuns 120 = .ok (.ifCond .ne 6, 3) := by decide +kernel
theorem dX10_findRuns_123 : decode cX10_findRuns 123 = .ok (.goto 43, 3) := by decide +kernel
theorem dX10_findRuns_126 : decode cX10_findRuns 126 = .ok (.aload_n 0, 1) := by decide +kernel
theorem dX10_findRuns_127 : decode cX10_findRuns 127 = .ok (.getfield 50, 3) := by decide +kernel
theorem dX10_findRuns_130 : decode cX10_findRuns 130 = .ok (.aload_n 0, 1) := by decide +kernel
theorem dX10_findRuns_131 : decode cX10_findRuns 131 = .ok (.getfield 164, 3) := by decide +kernel
theorem dX10_findRuns_134 : decode cX10_findRuns 134 = .ok (.iload_n 1, 1) := by decide +kernel
theorem dX10_findRuns_135 : decode cX10_findRuns 135 = .ok (.iastore, 1) := by decide +kernel
theorem dX10_findRuns_136 : decode cX10_findRuns 136 = .ok (.aload_n 0, 1) := by decide +kernel
theorem dX10_findRuns_137 : decode cX10_findRuns 137 = .ok (.getfield 53, 3) := by decide +kernel
theorem dX10_findRuns_140 : decode cX10_findRuns 140 = .ok (.aload_n 0, 1) := by decide +kernel
theorem dX10_findRuns_141 : decode cX10_findRuns 141 = .ok (.getfield 164, 3) := by decide +kernel
theorem dX10_findRuns_144 : decode cX10_findRuns 144 = .ok (.iload_n 3, 1) := by decide +kernel
theorem dX10_findRuns_145 : decode cX10_findRuns 145 = .ok (.iastore, 1) := by decide +kernel
theorem dX10_findRuns_146 : decode cX10_findRuns 146 = .ok (.aload_n 0, 1) := by decide +kernel
theorem dX10_findRuns_147 : decode cX10_findRuns 147 = .ok (.getfield 56, 3) := by decide +kernel
theorem dX10_findRuns_150 : decode cX10_findRuns 150 = .ok (.aload_n 0, 1) := by decide +kernel
theorem dX10_findRuns_151 : decode cX10_findRuns 151 = .ok (.getfield 164, 3) := by decide +kernel
theorem dX10_findRuns_154 : decode cX10_findRuns 154 = .ok (.iload_n 2, 1) := by decide +kernel
theorem dX10_findRuns_155 : decode cX10_findRuns 155 = .ok (.iastore, 1) := by decide +kernel
theorem dX10_findRuns_156 : decode cX10_findRuns 156 = .ok (.aload_n 0, 1) := by decide +kernel
theorem dX10_findRuns_157 : decode cX10_findRuns 157 = .ok (.dup, 1) := by decide +kernel
theorem dX10_findRuns_158 : decode cX10_findRuns 158 = .ok (.getfield 164, 3) := by decide +kernel
theorem dX10_findRuns_161 : decode cX10_findRuns 161 = .ok (.iconst 1, 1) := by decide +kernel
theorem dX10_findRuns_162 : decode cX10_findRuns 162 = .ok (.iadd, 1) := by decide +kernel
theorem dX10_findRuns_163 : decode cX10_findRuns 163 = .ok (.putfield 164, 3) := by decide +kernel
theorem dX10_findRuns_166 : decode cX10_findRuns 166 = .ok (.iinc 2 1, 3) := by decide +kernel
theorem dX10_findRuns_169 : decode cX10_findRuns 169 = .ok (.goto (-152), 3) := by decide +kernel
theorem dX10_findRuns_172 : decode cX10_findRuns 172 = .ok (.iinc 1 1, 3) := by decide +kernel
theorem dX10_findRuns_175 : decode cX10_findRuns 175 = .ok (.goto (-168), 3) := by decide +kernel
theorem dX10_findRuns_178 : decode cX10_findRuns 178 = .ok (.return_, 1) := by decide +kernel
theorem dX10_run_0 : decode cX10_run 0 = .ok (.aload_n 0, 1) := by decide +kernel
theorem dX10_run_1 : decode cX10_run 1 = .ok (.iconst 0, 1) := by decide +kernel
theorem dX10_run_2 : decode cX10_run 2 = .ok (.putfield 1, 3) := by decide +kernel
theorem dX10_run_5 : decode cX10_run 5 = .ok (.aload_n 0, 1) := by decide +kernel
theorem dX10_run_6 : decode cX10_run 6 = .ok (.iload_n 1, 1) := by decide +kernel
theorem dX10_run_7 : decode cX10_run 7 = .ok (.iload_n 2, 1) := by decide +kernel
theorem dX10_run_8 : decode cX10_run 8 = .ok (.iconst 1, 1) := by decide +kernel
theorem dX10_run_9 : decode cX10_run 9 = .ok (.invokevirtual 111, 3) := by decide +kernel
theorem dX10_run_12 : decode cX10_run 12 = .ok (.ifCond .eq 27, 3) := by decide +kernel
theorem dX10_run_15 : decode cX10_run 15 = .ok (.aload_n 0, 1) := by decide +kernel
theorem dX10_run_16 : decode cX10_run 16 = .ok (.iload 4, 2) := by decide +kernel
theorem dX10_run_18 : decode cX10_run 18 = .ok (.ifCond .lt 13, 3) := by decide +kernel
theorem dX10_run_21 : decode cX10_run 21 = .ok (.iload 4, 2) := by decide +kernel
theorem dX10_run_23 : decode cX10_run 23 = .ok (.iconst 2, 1) := by decide +kernel
theorem dX10_run_24 : decode cX10_run 24 = .ok (.if_icmp .gt 7, 3) := by decide +kernel
theorem dX10_run_27 : decode cX10_run 27 = .ok (.iconst 1, 1) := by decide +kernel
theorem dX10_run_28 : decode cX10_run 28 = .ok (.goto 4, 3) := by decide +kernel
theorem dX10_run_31 : decode cX10_run 31 = .ok (.iconst 0, 1) := by decide +kernel
theorem dX10_run_32 : decode cX10_run 32 = .ok (.iconst 2, 1) := by decide +kernel
theorem dX10_run_33 : decode cX10_run 33 = .ok (.invokevirtual 100, 3) := by decide +kernel
theorem dX10_run_36 : decode cX10_run 36 = .ok (.ifCond .ne 5, 3) := by decide +kernel
theorem dX10_run_39 : decode cX10_run 39 = .ok (.iconst 0, 1) := by decide +kernel
theorem dX10_run_40 : decode cX10_run 40 = .ok (.ireturn, 1) := by decide +kernel
theorem dX10_run_41 : decode cX10_run 41 = .ok (.aload_n 0, 1) := by decide +kernel
theorem dX10_run_42 : decode cX10_run 42 = .ok (.iload_n 1, 1) := by decide +kernel
theorem dX10_run_43 : decode cX10_run 43 = .ok (.iload_n 2, 1) := by decide +kernel
theorem dX10_run_44 : decode cX10_run 44 = .ok (.invokevirtual 118, 3) := by decide +kernel
theorem dX10_run_47 : decode cX10_run 47 = .ok (.ifCond .ne 5, 3) := by decide +kernel
theorem dX10_run_50 : decode cX10_run 50 = .ok (.iconst (-1), 1) := by decide +kernel
theorem dX10_run_51 : decode cX10_run 51 = .ok (.ireturn, 1) := by decide +kernel
theorem dX10_run_52 : decode cX10_run 52 = .ok (.aload_n 0, 1) := by decide +kernel
theorem dX10_run_53 : decode cX10_run 53 = .ok (.invokevirtual 161, 3) := by decide +kernel
theorem dX10_run_56 : decode cX10_run 56 = .ok (.iload_n 3, 1) := by decide +kernel
theorem dX10_run_57 : decode cX10_run 57 = .ok (.ifCond .lt 11, 3) := by decide +kernel
theorem dX10_run_60 : decode cX10_run 60 = .ok (.iload_n 3, 1) := by decide +kernel
theorem dX10_run_61 : decode cX10_run 61 = .ok (.aload_n 0, 1) := by decide +kernel
theorem dX10_run_62 : decode cX10_run 62 = .ok (.getfield 164, 3) := by decide +kernel
theorem dX10_run_65 : decode cX10_run 65 = .ok (.if_icmp .lt 5, 3) := by decide +kernel
theorem dX10_run_68 : decode cX10_run 68 = .ok (.iconst (-1), 1) := by decide +kernel
theorem dX10_run_69 : decode cX10_run 69 = .ok (.ireturn, 1) := by decide +kernel
theorem dX10_run_70 : decode cX10_run 70 = .ok (.iload 4, 2) := by decide +kernel
theorem dX10_run_72 : decode cX10_run 72 = .ok (.ifCond .ne 12, 3) := by decide +kernel
theorem dX10_run_75 : decode cX10_run 75 = .ok (.aload_n 0, 1) := by decide +kernel
theorem dX10_run_76 : decode cX10_run 76 = .ok (.getfield 50, 3) := by decide +kernel
theorem dX10_run_79 : decode cX10_run 79 = .ok (.iload_n 3, 1) := by decide +kernel
theorem dX10_run_80 : decode cX10_run 80 = .ok (.iaload, 1) := by decide +kernel
theorem dX10_run_81 : decode cX10_run 81 = .ok (.goto 24, 3) := by decide +kernel
theorem dX10_run_84 : decode cX10_run 84 = .ok (.iload 4, 2) := by decide +kernel
theorem dX10_run_86 : decode cX10_run 86 = .ok (.iconst 1, 1) := by decide +kernel
theorem dX10_run_87 : decode cX10_run 87 = .ok (.if_icmp .ne 12, 3) := by decide +kernel
theorem dX10_run_90 : decode cX10_run 90 = .ok (.aload_n 0, 1) := by decide +kernel
theorem dX10_run_91 : decode cX10_run 91 = .ok (.getfield 53, 3) := by decide +kernel
theorem dX10_run_94 : decode cX10_run 94 = .ok (.iload_n 3, 1) := by decide +kernel
theorem dX10_run_95 : decode cX10_run 95 = .ok (.iaload, 1) := by decide +kernel
theorem dX10_run_96 : decode cX10_run 96 = .ok (.goto 9, 3) := by decide +kernel
theorem dX10_run_99 : decode cX10_run 99 = .ok (.aload_n 0, 1) := by decide +kernel
theorem dX10_run_100 : decode cX10_run 100 = .ok (.getfield 56, 3) := by decide +kernel
theorem dX10_run_103 : decode cX10_run 103 = .ok (.iload_n 3, 1) := by decide +kernel
theorem dX10_run_104 : decode cX10_run 104 = .ok (.iaload, 1) := by decide +kernel
theorem dX10_run_105 : decode cX10_run 105 = .ok (.ireturn, 1) := by decide +kernel
theorem dX10_findClash_0 : decode cX10_findClash 0 = .ok (.aload_n 0, 1) := by decide +kernel
theorem dX10_findClash_1 : decode cX10_findClash 1 = .ok (.iconst (-1), 1) := by decide +kernel
theorem dX10_findClash_2 : decode cX10_findClash 2 = .ok (.putfield 167, 3) := by decide +kernel
theorem dX10_findClash_5 : decode cX10_findClash 5 = .ok (.iconst 1, 1) := by decide +kernel
theorem dX10_findClash_6 : decode cX10_findClash 6 = .ok (.istore 4, 2) := by decide +kernel
theorem dX10_findClash_8 : decode cX10_findClash 8 = .ok (.iload 4, 2) := by decide +kernel
theorem dX10_findClash_10 : decode cX10_findClash 10 = .ok (.iload_n 3, 1) := by decide +kernel
theorem dX10_findClash_11 : decode cX10_findClash 11 = .ok (.if_icmp .gt 115, 3) := by decide +kernel
theorem dX10_findClash_14 : decode cX10_findClash 14 = .ok (.aload_n 0, 1) := by decide +kernel
theorem dX10_findClash_15 : decode cX10_findClash 15 = .ok (.getfield 167, 3) := by decide +kernel
theorem dX10_findClash_18 : decode cX10_findClash 18 = .ok (.iconst (-1), 1) := by decide +kernel
theorem dX10_findClash_19 : decode cX10_findClash 19 = .ok (.if_icmp .ne 107, 3) := by decide +kernel
theorem dX10_findClash_22 : decode cX10_findClash 22 = .ok (.iconst 0, 1) := by decide +kernel
theorem dX10_findClash_23 : decode cX10_findClash 23 = .ok (.istore 5, 2) := by decide +kernel
theorem dX10_findClash_25 : decode cX10_findClash 25 = .ok (.iload 5, 2) := by decide +kernel
theorem dX10_findClash_27 : decode cX10_findClash 27 = .ok (.aload_n 0, 1) := by decide +kernel
theorem dX10_findClash_28 : decode cX10_findClash 28 = .ok (.getfield 122, 3) := by decide +kernel
theorem dX10_findClash_31 : decode cX10_findClash 31 = .ok (.if_icmp .ge 89, 3) := by decide +kernel
theorem dX10_findClash_34 : decode cX10_findClash 34 = .ok (.aload_n 0, 1) := by decide +kernel
theorem dX10_findClash_35 : decode cX10_findClash 35 = .ok (.getfield 167, 3) := by decide +kernel
theorem dX10_findClash_38 : decode cX10_findClash 38 = .ok (.iconst (-1), 1) := by decide +kernel
theorem dX10_findClash_39 : decode cX10_findClash 39 = .ok (.if_icmp .ne 81, 3) := by decide +kernel
theorem dX10_findClash_42 : decode cX10_findClash 42 = .ok (.iload 4, 2) := by decide +kernel
theorem dX10_findClash_44 : decode cX10_findClash 44 = .ok (.iconst 1, 1) := by decide +kernel
theorem dX10_findClash_45 : decode cX10_findClash 45 = .ok (.isub, 1) := by decide +kernel
theorem dX10_findClash_46 : decode cX10_findClash 46 = .ok (.istore 6, 2) := by decide +kernel
theorem dX10_findClash_48 : decode cX10_findClash 48 = .ok (.iload_n 1, 1) := by decide +kernel
theorem dX10_findClash_49 : decode cX10_findClash 49 = .ok (.iload 5, 2) := by decide +kernel
theorem dX10_findClash_51 : decode cX10_findClash 51 = .ok (.invokestatic 150, 3) := by decide +kernel
theorem dX10_findClash_54 : decode cX10_findClash 54 = .ok (.ifCond .eq 60, 3) := by decide +kernel
theorem dX10_findClash_57 : decode cX10_findClash 57 = .ok (.iload 6, 2) := by decide +kernel
theorem dX10_findClash_59 : decode cX10_findClash 59 = .ok (.ifCond .lt 55, 3) := by decide +kernel
theorem dX10_findClash_62 : decode cX10_findClash 62 = .ok (.aload_n 0, 1) := by decide +kernel
theorem dX10_findClash_63 : decode cX10_findClash 63 = .ok (.getfield 167, 3) := by decide +kernel
theorem dX10_findClash_66 : decode cX10_findClash 66 = .ok (.iconst (-1), 1) := by decide +kernel
theorem dX10_findClash_67 : decode cX10_findClash 67 = .ok (.if_icmp .ne 47, 3) := by decide +kernel
theorem dX10_findClash_70 : decode cX10_findClash 70 = .ok (.aload_n 0, 1) := by decide +kernel
theorem dX10_findClash_71 : decode cX10_findClash 71 = .ok (.iload 5, 2) := by decide +kernel
theorem dX10_findClash_73 : decode cX10_findClash 73 = .ok (.aload_n 2, 1) := by decide +kernel
theorem dX10_findClash_74 : decode cX10_findClash 74 = .ok (.iload 6, 2) := by decide +kernel
theorem dX10_findClash_76 : decode cX10_findClash 76 = .ok (.iload 4, 2) := by decide +kernel
theorem dX10_findClash_78 : decode cX10_findClash 78 = .ok (.invokevirtual 153, 3) := by decide +kernel
theorem dX10_findClash_81 : decode cX10_findClash 81 = .ok (.ifCond .ne 6, 3) := by decide +kernel
theorem dX10_findClash_84 : decode cX10_findClash 84 = .ok (.goto 24, 3) := by decide +kernel
theorem dX10_findClash_87 : decode cX10_findClash 87 = .ok (.aload_n 0, 1) := by decide +kernel
theorem dX10_findClash_88 : decode cX10_findClash 88 = .ok (.iload 4, 2) := by decide +kernel
theorem dX10_findClash_90 : decode cX10_findClash 90 = .ok (.putfield 167, 3) := by decide +kernel
theorem dX10_findClash_93 : decode cX10_findClash 93 = .ok (.aload_n 0, 1) := by decide +kernel
theorem dX10_findClash_94 : decode cX10_findClash 94 = .ok (.iload 5, 2) := by decide +kernel
theorem dX10_findClash_96 : decode cX10_findClash 96 = .ok (.putfield 170, 3) := by decide +kernel
theorem dX10_findClash_99 : decode cX10_findClash 99 = .ok (.aload_n 0, 1) := by decide +kernel
theorem dX10_findClash_100 : decode cX10_findClash 100 = .ok (.iload 4, 2) := by decide +kernel
theorem dX10_findClash_102 : decode cX10_findClash 102 = .ok (.iload 6, 2) := by decide +kernel
theorem dX10_findClash_104 : decode cX10_findClash 104 = .ok (.isub, 1) := by decide +kernel
theorem dX10_findClash_105 : decode cX10_findClash 105 = .ok (.putfield 173, 3) := by decide +kernel
theorem dX10_findClash_108 : decode cX10_findClash 108 = .ok (.iinc 6 (-1), 3) := by decide +kernel
theorem dX10_findClash_111 : decode cX10_findClash 111 = .ok (.goto (-63), 3) := by decide +kernel
theorem dX10_findClash_114 : decode cX10_findClash 114 = .ok (.iinc 5 1, 3) := by decide +kernel
theorem dX10_findClash_117 : decode cX10_findClash 117 = .ok (.goto (-92), 3) := by decide +kernel
theorem dX10_findClash_120 : decode cX10_findClash 120 = .ok (.iinc 4 1, 3) := by decide +kernel
theorem dX10_findClash_123 : decode cX10_findClash 123 = .ok (.goto (-115), 3) := by decide +kernel
theorem dX10_findClash_126 : decode cX10_findClash 126 = .ok (.return_, 1) := by decide +kernel
theorem dX10_clash_0 : decode cX10_clash 0 = .ok (.aload_n 0, 1) := by decide +kernel
theorem dX10_clash_1 : decode cX10_clash 1 = .ok (.iconst 0, 1) := by decide +kernel
theorem dX10_clash_2 : decode cX10_clash 2 = .ok (.putfield 1, 3) := by decide +kernel
theorem dX10_clash_5 : decode cX10_clash 5 = .ok (.aload_n 0, 1) := by decide +kernel
theorem dX10_clash_6 : decode cX10_clash 6 = .ok (.iload_n 2, 1) := by decide +kernel
theorem dX10_clash_7 : decode cX10_clash 7 = .ok (.iload_n 3, 1) := by decide +kernel
theorem dX10_clash_8 : decode cX10_clash 8 = .ok (.iconst 1, 1) := by decide +kernel
theorem dX10_clash_9 : decode cX10_clash 9 = .ok (.invokevirtual 111, 3) := by decide +kernel
theorem dX10_clash_12 : decode cX10_clash 12 = .ok (.ifCond .eq 35, 3) := by decide +kernel
theorem dX10_clash_15 : decode cX10_clash 15 = .ok (.aload_n 0, 1) := by decide +kernel
theorem dX10_clash_16 : decode cX10_clash 16 = .ok (.aload_n 0, 1) := by decide +kernel
theorem dX10_clash_17 : decode cX10_clash 17 = .ok (.iload_n 1, 1) := by decide +kernel
theorem dX10_clash_18 : decode cX10_clash 18 = .ok (.invokevirtual 176, 3) := by decide +kernel
theorem dX10_clash_21 : decode cX10_clash 21 = .ok (.ifCond .eq 18, 3) := by decide +kernel
theorem dX10_clash_24 : decode cX10_clash 24 = .ok (.iload 4, 2) := by decide +kernel
theorem dX10_clash_26 : decode cX10_clash 26 = .ok (.ifCond .lt 13, 3) := by decide +kernel
theorem dX10_clash_29 : decode cX10_clash 29 = .ok (.iload 4, 2) := by decide +kernel
theorem dX10_clash_31 : decode cX10_clash 31 = .ok (.iconst 3, 1) := by decide +kernel
theorem dX10_clash_32 : decode cX10_clash 32 = .ok (.if_icmp .gt 7, 3) := by decide +kernel
theorem dX10_clash_35 : decode cX10_clash 35 = .ok (.iconst 1, 1) := by decide +kernel
theorem dX10_clash_36 : decode cX10_clash 36 = .ok (.goto 4, 3) := by decide +kernel
theorem dX10_clash_39 : decode cX10_clash 39 = .ok (.iconst 0, 1) := by decide +kernel
theorem dX10_clash_40 : decode cX10_clash 40 = .ok (.iconst 2, 1) := by decide +kernel
theorem dX10_clash_41 : decode cX10_clash 41 = .ok (.invokevirtual 100, 3) := by decide +kernel
theorem dX10_clash_44 : decode cX10_clash 44 = .ok (.ifCond .ne 5, 3) := by decide +kernel
theorem dX10_clash_47 : decode cX10_clash 47 = .ok (.iconst 0, 1) := by decide +kernel
theorem dX10_clash_48 : decode cX10_clash 48 = .ok (.ireturn, 1) := by decide +kernel
theorem dX10_clash_49 : decode cX10_clash 49 = .ok (.aload_n 0, 1) := by decide +kernel
theorem dX10_clash_50 : decode cX10_clash 50 = .ok (.iload_n 2, 1) := by decide +kernel
theorem dX10_clash_51 : decode cX10_clash 51 = .ok (.iload_n 3, 1) := by decide +kernel
theorem dX10_clash_52 : decode cX10_clash 52 = .ok (.invokevirtual 118, 3) := by decide +kernel
theorem dX10_clash_55 : decode cX10_clash 55 = .ok (.ifCond .ne 6, 3) := by decide +kernel
theorem dX10_clash_58 : decode cX10_clash 58 = .ok (.bipush (-2), 2) := by decide +kernel
theorem dX10_clash_60 : decode cX10_clash 60 = .ok (.ireturn, 1) := by decide +kernel
theorem dX10_clash_61 : decode cX10_clash 61 = .ok (.aload_n 0, 1) := by decide +kernel
theorem dX10_clash_62 : decode cX10_clash 62 = .ok (.iload_n 1, 1) := by decide +kernel
theorem dX10_clash_63 : decode cX10_clash 63 = .ok (.aload_n 0, 1) := by decide +kernel
theorem dX10_clash_64 : decode cX10_clash 64 = .ok (.getfield 23, 3) := by decide +kernel
theorem dX10_clash_67 : decode cX10_clash 67 = .ok (.aload_n 0, 1) := by decide +kernel
theorem dX10_clash_68 : decode cX10_clash 68 = .ok (.getfield 115, 3) := by decide +kernel
theorem dX10_clash_71 : decode cX10_clash 71 = .ok (.invokevirtual 179, 3) := by decide +kernel
theorem dX10_clash_74 : decode cX10_clash 74 = .ok (.iload 4, 2) := by decide +kernel
theorem dX10_clash_76 : decode cX10_clash 76 = .ok (.ifCond .ne 17, 3) := by decide +kernel
theorem dX10_clash_79 : decode cX10_clash 79 = .ok (.aload_n 0, 1) := by decide +kernel
theorem dX10_clash_80 : decode cX10_clash 80 = .ok (.getfield 167, 3) := by decide +kernel
theorem dX10_clash_83 : decode cX10_clash 83 = .ok (.iconst (-1), 1) := by decide +kernel
theorem dX10_clash_84 : decode cX10_clash 84 = .ok (.if_icmp .ne 7, 3) := by decide +kernel
theorem dX10_clash_87 : decode cX10_clash 87 = .ok (.iconst 1, 1) := by decide +kernel
theorem dX10_clash_88 : decode cX10_clash 88 = .ok (.goto 4, 3) := by decide +kernel
theorem dX10_clash_91 : decode cX10_clash 91 = .ok (.iconst 0, 1) := by decide +kernel
theorem dX10_clash_92 : decode cX10_clash 92 = .ok (.ireturn, 1) := by decide +kernel
theorem dX10_clash_93 : decode cX10_clash 93 = .ok (.aload_n 0, 1) := by decide +kernel
theorem dX10_clash_94 : decode cX10_clash 94 = .ok (.getfield 167, 3) := by decide +kernel
theorem dX10_clash_97 : decode cX10_clash 97 = .ok (.iconst (-1), 1) := by decide +kernel
theorem dX10_clash_98 : decode cX10_clash 98 = .ok (.if_icmp .ne 5, 3) := by decide +kernel
theorem dX10_clash_101 : decode cX10_clash 101 = .ok (.iconst (-1), 1) := by decide +kernel
theorem dX10_clash_102 : decode cX10_clash 102 = .ok (.ireturn, 1) := by decide +kernel
theorem dX10_clash_103 : decode cX10_clash 103 = .ok (.iload 4, 2) := by decide +kernel
theorem dX10_clash_105 : decode cX10_clash 105 = .ok (.iconst 1, 1) := by decide +kernel
theorem dX10_clash_106 : decode cX10_clash 106 = .ok (.if_icmp .ne 10, 3) := by decide +kernel
theorem dX10_clash_109 : decode cX10_clash 109 = .ok (.aload_n 0, 1) := by decide +kernel
theorem dX10_clash_110 : decode cX10_clash 110 = .ok (.getfield 167, 3) := by decide +kernel
theorem dX10_clash_113 : decode cX10_clash 113 = .ok (.goto 20, 3) := by decide +kernel
end
section
theorem dX10_clash_116 : decode cX10_clash 116 = .ok (.iload 4, 2) := by decide +kernel
theorem dX10_clash_118 : decode cX10_clash 118 = .ok (.iconst 2, 1) := by decide +kernel
theorem dX10_clash_119 : decode cX10_clash 119 = .ok (.if_icmp .ne 10, 3) := by decide +kernel
theorem dX10_clash_122 : decode cX10_clash 122 = .ok (.aload_n 0, 1) := by decide +kernel
theorem dX10_clash_123 : decode cX10_clash 123 = .ok (.getfield 170, 3) := by decide +kernel
theorem dX10_clash_126 : decode cX10_clash 126 = .ok (.goto 7, 3) := by decide +kernel
theorem dX10_clash_129 : decode cX10_clash 129 = .ok (.aload_n 0, 1) := by decide +kernel
theorem dX10_clash_130 : decode cX10_clash 130 = .ok (.getfield 173, 3) := by decide +kernel
theorem dX10_clash_133 : decode cX10_clash 133 = .ok (.ireturn, 1) := by decide +kernel
theorem dX10_beginSearch_0 : decode cX10_beginSearch 0 = .ok (.aload_n 0, 1) := by decide +kernel
theorem dX10_beginSearch_1 : decode cX10_beginSearch 1 = .ok (.iload_n 1, 1) := by decide +kernel
theorem dX10_beginSearch_2 : decode cX10_beginSearch 2 = .ok (.putfield 183, 3) := by decide +kernel
theorem dX10_beginSearch_5 : decode cX10_beginSearch 5 = .ok (.aload_n 0, 1) := by decide +kernel
theorem dX10_beginSearch_6 : decode cX10_beginSearch 6 = .ok (.iload_n 2, 1) := by decide +kernel
theorem dX10_beginSearch_7 : decode cX10_beginSearch 7 = .ok (.putfield 186, 3) := by decide +kernel
theorem dX10_beginSearch_10 : decode cX10_beginSearch 10 = .ok (.aload_n 0, 1) := by decide +kernel
theorem dX10_beginSearch_11 : decode cX10_beginSearch 11 = .ok (.iload_n 3, 1) := by decide +kernel
theorem dX10_beginSearch_12 : decode cX10_beginSearch 12 = .ok (.putfield 189, 3) := by decide +kernel
theorem dX10_beginSearch_15 : decode cX10_beginSearch 15 = .ok (.aload_n 0, 1) := by decide +kernel
theorem dX10_beginSearch_16 : decode cX10_beginSearch 16 = .ok (.iconst 1, 1) := by decide +kernel
theorem dX10_beginSearch_17 : decode cX10_beginSearch 17 = .ok (.putfield 192, 3) := by decide +kernel
theorem dX10_beginSearch_20 : decode cX10_beginSearch 20 = .ok (.iconst 0, 1) := by decide +kernel
theorem dX10_beginSearch_21 : decode cX10_beginSearch 21 = .ok (.istore 4, 2) := by decide +kernel
theorem dX10_beginSearch_23 : decode cX10_beginSearch 23 = .ok (.iload 4, 2) := by decide +kernel
theorem dX10_beginSearch_25 : decode cX10_beginSearch 25 = .ok (.aload_n 0, 1) := by decide +kernel
theorem dX10_beginSearch_26 : decode cX10_beginSearch 26 = .ok (.getfield 122, 3) := by decide +kernel
theorem dX10_beginSearch_29 : decode cX10_beginSearch 29 = .ok (.if_icmp .ge 42, 3) := by decide +kernel
theorem dX10_beginSearch_32 : decode cX10_beginSearch 32 = .ok (.aload_n 0, 1) := by decide +kernel
theorem dX10_beginSearch_33 : decode cX10_beginSearch 33 = .ok (.getfield 195, 3) := by decide +kernel
theorem dX10_beginSearch_36 : decode cX10_beginSearch 36 = .ok (.ifCond .ne 35, 3) := by decide +kernel
theorem dX10_beginSearch_39 : decode cX10_beginSearch 39 = .ok (.iload_n 1, 1) := by decide +kernel
theorem dX10_beginSearch_40 : decode cX10_beginSearch 40 = .ok (.iload 4, 2) := by decide +kernel
theorem dX10_beginSearch_42 : decode cX10_beginSearch 42 = .ok (.invokestatic 150, 3) := by decide +kernel
theorem dX10_beginSearch_45 : decode cX10_beginSearch 45 = .ok (.ifCond .eq 20, 3) := by decide +kernel
theorem dX10_beginSearch_48 : decode cX10_beginSearch 48 = .ok (.aload_n 0, 1) := by decide +kernel
theorem dX10_beginSearch_49 : decode cX10_beginSearch 49 = .ok (.getfield 26, 3) := by decide +kernel
theorem dX10_beginSearch_52 : decode cX10_beginSearch 52 = .ok (.iload 4, 2) := by decide +kernel
theorem dX10_beginSearch_54 : decode cX10_beginSearch 54 = .ok (.iaload, 1) := by decide +kernel
theorem dX10_beginSearch_55 : decode cX10_beginSearch 55 = .ok (.iconst 5, 1) := by decide +kernel
theorem dX10_beginSearch_56 : decode cX10_beginSearch 56 = .ok (.if_icmp .ne 9, 3) := by decide +kernel
theorem dX10_beginSearch_59 : decode cX10_beginSearch 59 = .ok (.aload_n 0, 1) := by decide +kernel
theorem dX10_beginSearch_60 : decode cX10_beginSearch 60 = .ok (.bipush 10, 2) := by decide +kernel
theorem dX10_beginSearch_62 : decode cX10_beginSearch 62 = .ok (.putfield 192, 3) := by decide +kernel
theorem dX10_beginSearch_65 : decode cX10_beginSearch 65 = .ok (.iinc 4 1, 3) := by decide +kernel
theorem dX10_beginSearch_68 : decode cX10_beginSearch 68 = .ok (.goto (-45), 3) := by decide +kernel
theorem dX10_beginSearch_71 : decode cX10_beginSearch 71 = .ok (.aload_n 0, 1) := by decide +kernel
theorem dX10_beginSearch_72 : decode cX10_beginSearch 72 = .ok (.iconst 0, 1) := by decide +kernel
theorem dX10_beginSearch_73 : decode cX10_beginSearch 73 = .ok (.putfield 199, 3) := by decide +kernel
theorem dX10_beginSearch_76 : decode cX10_beginSearch 76 = .ok (.aload_n 0, 1) := by decide +kernel
theorem dX10_beginSearch_77 : decode cX10_beginSearch 77 = .ok (.iconst 0, 1) := by decide +kernel
theorem dX10_beginSearch_78 : decode cX10_beginSearch 78 = .ok (.putfield 202, 3) := by decide +kernel
theorem dX10_beginSearch_81 : decode cX10_beginSearch 81 = .ok (.aload_n 0, 1) := by decide +kernel
theorem dX10_beginSearch_82 : decode cX10_beginSearch 82 = .ok (.iconst 0, 1) := by decide +kernel
theorem dX10_beginSearch_83 : decode cX10_beginSearch 83 = .ok (.putfield 205, 3) := by decide +kernel
theorem dX10_beginSearch_86 : decode cX10_beginSearch 86 = .ok (.aload_n 0, 1) := by decide +kernel
theorem dX10_beginSearch_87 : decode cX10_beginSearch 87 = .ok (.iconst 0, 1) := by decide +kernel
theorem dX10_beginSearch_88 : decode cX10_beginSearch 88 = .ok (.putfield 208, 3) := by decide +kernel
theorem dX10_beginSearch_91 : decode cX10_beginSearch 91 = .ok (.return_, 1) := by decide +kernel
theorem dX10_look_0 : decode cX10_look 0 = .ok (.aload_n 0, 1) := by decide +kernel
theorem dX10_look_1 : decode cX10_look 1 = .ok (.aload_n 0, 1) := by decide +kernel
theorem dX10_look_2 : decode cX10_look 2 = .ok (.getfield 125, 3) := by decide +kernel
theorem dX10_look_5 : decode cX10_look 5 = .ok (.aload_n 0, 1) := by decide +kernel
theorem dX10_look_6 : decode cX10_look 6 = .ok (.getfield 192, 3) := by decide +kernel
theorem dX10_look_9 : decode cX10_look 9 = .ok (.iadd, 1) := by decide +kernel
theorem dX10_look_10 : decode cX10_look 10 = .ok (.sipush 20000, 3) := by decide +kernel
theorem dX10_look_13 : decode cX10_look 13 = .ok (.if_icmp .le 7, 3) := by decide +kernel
theorem dX10_look_16 : decode cX10_look 16 = .ok (.iconst 1, 1) := by decide +kernel
theorem dX10_look_17 : decode cX10_look 17 = .ok (.goto 4, 3) := by decide +kernel
theorem dX10_look_20 : decode cX10_look 20 = .ok (.iconst 0, 1) := by decide +kernel
theorem dX10_look_21 : decode cX10_look 21 = .ok (.putfield 208, 3) := by decide +kernel
theorem dX10_look_24 : decode cX10_look 24 = .ok (.aload_n 0, 1) := by decide +kernel
theorem dX10_look_25 : decode cX10_look 25 = .ok (.getfield 208, 3) := by decide +kernel
theorem dX10_look_28 : decode cX10_look 28 = .ok (.ifCond .ne 16, 3) := by decide +kernel
theorem dX10_look_31 : decode cX10_look 31 = .ok (.aload_n 0, 1) := by decide +kernel
theorem dX10_look_32 : decode cX10_look 32 = .ok (.dup, 1) := by decide +kernel
theorem dX10_look_33 : decode cX10_look 33 = .ok (.getfield 125, 3) := by decide +kernel
theorem dX10_look_36 : decode cX10_look 36 = .ok (.aload_n 0, 1) := by decide +kernel
theorem dX10_look_37 : decode cX10_look 37 = .ok (.getfield 192, 3) := by decide +kernel
theorem dX10_look_40 : decode cX10_look 40 = .ok (.iadd, 1) := by decide +kernel
theorem dX10_look_41 : decode cX10_look 41 = .ok (.putfield 125, 3) := by decide +kernel
theorem dX10_look_44 : decode cX10_look 44 = .ok (.aload_n 0, 1) := by decide +kernel
theorem dX10_look_45 : decode cX10_look 45 = .ok (.getfield 208, 3) := by decide +kernel
theorem dX10_look_48 : decode cX10_look 48 = .ok (.ifCond .ne 7, 3) := by decide +kernel
theorem dX10_look_51 : decode cX10_look 51 = .ok (.iconst 1, 1) := by decide +kernel
theorem dX10_look_52 : decode cX10_look 52 = .ok (.goto 4, 3) := by decide +kernel
theorem dX10_look_55 : decode cX10_look 55 = .ok (.iconst 0, 1) := by decide +kernel
theorem dX10_look_56 : decode cX10_look 56 = .ok (.ireturn, 1) := by decide +kernel
theorem dX10_keepsWay_0 : decode cX10_keepsWay 0 = .ok (.aload_n 0, 1) := by decide +kernel
theorem dX10_keepsWay_1 : decode cX10_keepsWay 1 = .ok (.getfield 195, 3) := by decide +kernel
theorem dX10_keepsWay_4 : decode cX10_keepsWay 4 = .ok (.ifCond .ne 20, 3) := by decide +kernel
theorem dX10_keepsWay_7 : decode cX10_keepsWay 7 = .ok (.aload_n 0, 1) := by decide +kernel
theorem dX10_keepsWay_8 : decode cX10_keepsWay 8 = .ok (.aload_n 0, 1) := by decide +kernel
theorem dX10_keepsWay_9 : decode cX10_keepsWay 9 = .ok (.getfield 183, 3) := by decide +kernel
theorem dX10_keepsWay_12 : decode cX10_keepsWay 12 = .ok (.aload_n 0, 1) := by decide +kernel
theorem dX10_keepsWay_13 : decode cX10_keepsWay 13 = .ok (.getfield 59, 3) := by decide +kernel
theorem dX10_keepsWay_16 : decode cX10_keepsWay 16 = .ok (.aload_n 0, 1) := by decide +kernel
theorem dX10_keepsWay_17 : decode cX10_keepsWay 17 = .ok (.getfield 199, 3) := by decide +kernel
theorem dX10_keepsWay_20 : decode cX10_keepsWay 20 = .ok (.invokevirtual 211, 3) := by decide +kernel
theorem dX10_keepsWay_23 : decode cX10_keepsWay 23 = .ok (.ireturn, 1) := by decide +kernel
theorem dX10_keepsWay_24 : decode cX10_keepsWay 24 = .ok (.iconst 1, 1) := by decide +kernel
theorem dX10_keepsWay_25 : decode cX10_keepsWay 25 = .ok (.istore_n 1, 1) := by decide +kernel
theorem dX10_keepsWay_26 : decode cX10_keepsWay 26 = .ok (.iconst 2, 1) := by decide +kernel
theorem dX10_keepsWay_27 : decode cX10_keepsWay 27 = .ok (.iload_n 1, 1) := by decide +kernel
theorem dX10_keepsWay_28 : decode cX10_keepsWay 28 = .ok (.imul, 1) := by decide +kernel
theorem dX10_keepsWay_29 : decode cX10_keepsWay 29 = .ok (.aload_n 0, 1) := by decide +kernel
theorem dX10_keepsWay_30 : decode cX10_keepsWay 30 = .ok (.getfield 199, 3) := by decide +kernel
theorem dX10_keepsWay_33 : decode cX10_keepsWay 33 = .ok (.if_icmp .gt 34, 3) := by decide +kernel
theorem dX10_keepsWay_36 : decode cX10_keepsWay 36 = .ok (.aload_n 0, 1) := by decide +kernel
theorem dX10_keepsWay_37 : decode cX10_keepsWay 37 = .ok (.getfield 59, 3) := by decide +kernel
theorem dX10_keepsWay_40 : decode cX10_keepsWay 40 = .ok (.aload_n 0, 1) := by decide +kernel
theorem dX10_keepsWay_41 : decode cX10_keepsWay 41 = .ok (.getfield 199, 3) := by decide +kernel
theorem dX10_keepsWay_44 : decode cX10_keepsWay 44 = .ok (.iconst 2, 1) := by decide +kernel
theorem dX10_keepsWay_45 : decode cX10_keepsWay 45 = .ok (.iload_n 1, 1) := by decide +kernel
theorem dX10_keepsWay_46 : decode cX10_keepsWay 46 = .ok (.imul, 1) := by decide +kernel
theorem dX10_keepsWay_47 : decode cX10_keepsWay 47 = .ok (.isub, 1) := by decide +kernel
theorem dX10_keepsWay_48 : decode cX10_keepsWay 48 = .ok (.aload_n 0, 1) := by decide +kernel
theorem dX10_keepsWay_49 : decode cX10_keepsWay 49 = .ok (.getfield 199, 3) := by decide +kernel
theorem dX10_keepsWay_52 : decode cX10_keepsWay 52 = .ok (.iload_n 1, 1) := by decide +kernel
theorem dX10_keepsWay_53 : decode cX10_keepsWay 53 = .ok (.invokestatic 128, 3) := by decide +kernel
theorem dX10_keepsWay_56 : decode cX10_keepsWay 56 = .ok (.ifCond .eq 5, 3) := by decide +kernel
theorem dX10_keepsWay_59 : decode cX10_keepsWay 59 = .ok (.iconst 0, 1) := by decide +kernel
theorem dX10_keepsWay_60 : decode cX10_keepsWay 60 = .ok (.ireturn, 1) := by decide +kernel
theorem dX10_keepsWay_61 : decode cX10_keepsWay 61 = .ok (.iinc 1 1, 3) := by decide +kernel
theorem dX10_keepsWay_64 : decode cX10_keepsWay 64 = .ok (.goto (-38), 3) := by decide +kernel
theorem dX10_keepsWay_67 : decode cX10_keepsWay 67 = .ok (.iconst 1, 1) := by decide +kernel
theorem dX10_keepsWay_68 : decode cX10_keepsWay 68 = .ok (.ireturn, 1) := by decide +kernel
theorem dX10_next_0 : decode cX10_next 0 = .ok (.aload_n 0, 1) := by decide +kernel
theorem dX10_next_1 : decode cX10_next 1 = .ok (.getfield 205, 3) := by decide +kernel
theorem dX10_next_4 : decode cX10_next 4 = .ok (.ifCond .ne 41, 3) := by decide +kernel
theorem dX10_next_7 : decode cX10_next 7 = .ok (.aload_n 0, 1) := by decide +kernel
theorem dX10_next_8 : decode cX10_next 8 = .ok (.iconst 1, 1) := by decide +kernel
theorem dX10_next_9 : decode cX10_next 9 = .ok (.putfield 205, 3) := by decide +kernel
theorem dX10_next_12 : decode cX10_next 12 = .ok (.aload_n 0, 1) := by decide +kernel
theorem dX10_next_13 : decode cX10_next 13 = .ok (.invokevirtual 215, 3) := by decide +kernel
theorem dX10_next_16 : decode cX10_next 16 = .ok (.ifCond .ne 5, 3) := by decide +kernel
theorem dX10_next_19 : decode cX10_next 19 = .ok (.iconst 0, 1) := by decide +kernel
theorem dX10_next_20 : decode cX10_next 20 = .ok (.ireturn, 1) := by decide +kernel
theorem dX10_next_21 : decode cX10_next 21 = .ok (.aload_n 0, 1) := by decide +kernel
theorem dX10_next_22 : decode cX10_next 22 = .ok (.getfield 189, 3) := by decide +kernel
theorem dX10_next_25 : decode cX10_next 25 = .ok (.ifCond .ne 5, 3) := by decide +kernel
theorem dX10_next_28 : decode cX10_next 28 = .ok (.iconst 1, 1) := by decide +kernel
theorem dX10_next_29 : decode cX10_next 29 = .ok (.ireturn, 1) := by decide +kernel
theorem dX10_next_30 : decode cX10_next 30 = .ok (.aload_n 0, 1) := by decide +kernel
theorem dX10_next_31 : decode cX10_next 31 = .ok (.getfield 59, 3) := by decide +kernel
theorem dX10_next_34 : decode cX10_next 34 = .ok (.iconst 0, 1) := by decide +kernel
theorem dX10_next_35 : decode cX10_next 35 = .ok (.iconst (-1), 1) := by decide +kernel
theorem dX10_next_36 : decode cX10_next 36 = .ok (.iastore, 1) := by decide +kernel
theorem dX10_next_37 : decode cX10_next 37 = .ok (.aload_n 0, 1) := by decide +kernel
theorem dX10_next_38 : decode cX10_next 38 = .ok (.iconst 1, 1) := by decide +kernel
theorem dX10_next_39 : decode cX10_next 39 = .ok (.putfield 199, 3) := by decide +kernel
theorem dX10_next_42 : decode cX10_next 42 = .ok (.goto 12, 3) := by decide +kernel
theorem dX10_next_45 : decode cX10_next 45 = .ok (.aload_n 0, 1) := by decide +kernel
theorem dX10_next_46 : decode cX10_next 46 = .ok (.getfield 189, 3) := by decide +kernel
theorem dX10_next_49 : decode cX10_next 49 = .ok (.ifCond .ne 5, 3) := by decide +kernel
theorem dX10_next_52 : decode cX10_next 52 = .ok (.iconst 0, 1) := by decide +kernel
theorem dX10_next_53 : decode cX10_next 53 = .ok (.ireturn, 1) := by decide +kernel
theorem dX10_next_54 : decode cX10_next 54 = .ok (.aload_n 0, 1) := by decide +kernel
theorem dX10_next_55 : decode cX10_next 55 = .ok (.getfield 199, 3) := by decide +kernel
theorem dX10_next_58 : decode cX10_next 58 = .ok (.ifCond .le 130, 3) := by decide +kernel
theorem dX10_next_61 : decode cX10_next 61 = .ok (.aload_n 0, 1) := by decide +kernel
theorem dX10_next_62 : decode cX10_next 62 = .ok (.getfield 59, 3) := by decide +kernel
theorem dX10_next_65 : decode cX10_next 65 = .ok (.aload_n 0, 1) := by decide +kernel
theorem dX10_next_66 : decode cX10_next 66 = .ok (.getfield 199, 3) := by decide +kernel
theorem dX10_next_69 : decode cX10_next 69 = .ok (.iconst 1, 1) := by decide +kernel
theorem dX10_next_70 : decode cX10_next 70 = .ok (.isub, 1) := by decide +kernel
theorem dX10_next_71 : decode cX10_next 71 = .ok (.dup2, 1) := by decide +kernel
theorem dX10_next_72 : decode cX10_next 72 = .ok (.iaload, 1) := by decide +kernel
theorem dX10_next_73 : decode cX10_next 73 = .ok (.iconst 1, 1) := by decide +kernel
theorem dX10_next_74 : decode cX10_next 74 = .ok (.iadd, 1) := by decide +kernel
theorem dX10_next_75 : decode cX10_next 75 = .ok (.iastore, 1) := by decide +kernel
theorem dX10_next_76 : decode cX10_next 76 = .ok (.aload_n 0, 1) := by decide +kernel
theorem dX10_next_77 : decode cX10_next 77 = .ok (.getfield 59, 3) := by decide +kernel
theorem dX10_next_80 : decode cX10_next 80 = .ok (.aload_n 0, 1) := by decide +kernel
theorem dX10_next_81 : decode cX10_next 81 = .ok (.getfield 199, 3) := by decide +kernel
theorem dX10_next_84 : decode cX10_next 84 = .ok (.iconst 1, 1) := by decide +kernel
theorem dX10_next_85 : decode cX10_next 85 = .ok (.isub, 1) := by decide +kernel
theorem dX10_next_86 : decode cX10_next 86 = .ok (.iaload, 1) := by decide +kernel
theorem dX10_next_87 : decode cX10_next 87 = .ok (.aload_n 0, 1) := by decide +kernel
theorem dX10_next_88 : decode cX10_next 88 = .ok (.getfield 186, 3) := by decide +kernel
theorem dX10_next_91 : decode cX10_next 91 = .ok (.if_icmp .ne 16, 3) := by decide +kernel
theorem dX10_next_94 : decode cX10_next 94 = .ok (.aload_n 0, 1) := by decide +kernel
theorem dX10_next_95 : decode cX10_next 95 = .ok (.dup, 1) := by decide +kernel
theorem dX10_next_96 : decode cX10_next 96 = .ok (.getfield 199, 3) := by decide +kernel
theorem dX10_next_99 : decode cX10_next 99 = .ok (.iconst 1, 1) := by decide +kernel
theorem dX10_next_100 : decode cX10_next 100 = .ok (.isub, 1) := by decide +kernel
theorem dX10_next_101 : decode cX10_next 101 = .ok (.putfield 199, 3) := by decide +kernel
theorem dX10_next_104 : decode cX10_next 104 = .ok (.goto (-50), 3) := by decide +kernel
theorem dX10_next_107 : decode cX10_next 107 = .ok (.aload_n 0, 1) := by decide +kernel
theorem dX10_next_108 : decode cX10_next 108 = .ok (.invokevirtual 215, 3) := by decide +kernel
theorem dX10_next_111 : decode cX10_next 111 = .ok (.ifCond .ne 5, 3) := by decide +kernel
theorem dX10_next_114 : decode cX10_next 114 = .ok (.iconst 0, 1) := by decide +kernel
theorem dX10_next_115 : decode cX10_next 115 = .ok (.ireturn, 1) := by decide +kernel
theorem dX10_next_116 : decode cX10_next 116 = .ok (.aload_n 0, 1) := by decide +kernel
theorem dX10_next_117 : decode cX10_next 117 = .ok (.invokevirtual 219, 3) := by decide +kernel
theorem dX10_next_120 : decode cX10_next 120 = .ok (.ifCond .ne 6, 3) := by decide +kernel
theorem dX10_next_123 : decode cX10_next 123 = .ok (.goto (-69), 3) := by decide +kernel
theorem dX10_next_126 : decode cX10_next 126 = .ok (.aload_n 0, 1) := by decide +kernel
theorem dX10_next_127 : decode cX10_next 127 = .ok (.aload_n 0, 1) := by decide +kernel
theorem dX10_next_128 : decode cX10_next 128 = .ok (.getfield 199, 3) := by decide +kernel
theorem dX10_next_131 : decode cX10_next 131 = .ok (.aload_n 0, 1) := by decide +kernel
theorem dX10_next_132 : decode cX10_next 132 = .ok (.getfield 202, 3) := by decide +kernel
theorem dX10_next_135 : decode cX10_next 135 = .ok (.if_icmp .le 10, 3) := by decide +kernel
theorem dX10_next_138 : decode cX10_next 138 = .ok (.aload_n 0, 1) := by decide +kernel
theorem dX10_next_139 : decode cX10_next 139 = .ok (.getfield 199, 3) := by decide +kernel
theorem dX10_next_142 : decode cX10_next 142 = .ok (.goto 7, 3) := by decide +kernel
theorem dX10_next_145 : decode cX10_next 145 = .ok (.aload_n 0, 1) := by decide +kernel
theorem dX10_next_146 : decode cX10_next 146 = .ok (.getfield 202, 3) := by decide +kernel
theorem dX10_next_149 : decode cX10_next 149 = .ok (.putfield 202, 3) := by decide +kernel
theorem dX10_next_152 : decode cX10_next 152 = .ok (.aload_n 0, 1) := by decide +kernel
theorem dX10_next_153 : decode cX10_next 153 = .ok (.getfield 199, 3) := by decide +kernel
theorem dX10_next_156 : decode cX10_next 156 = .ok (.aload_n 0, 1) := by decide +kernel
theorem dX10_next_157 : decode cX10_next 157 = .ok (.getfield 189, 3) := by decide +kernel
theorem dX10_next_160 : decode cX10_next 160 = .ok (.if_icmp .ne 5, 3) := by decide +kernel
theorem dX10_next_163 : decode cX10_next 163 = .ok (.iconst 1, 1) := by decide +kernel
theorem dX10_next_164 : decode cX10_next 164 = .ok (.ireturn, 1) := by decide +kernel
theorem dX10_next_165 : decode cX10_next 165 = .ok (.aload_n 0, 1) := by decide +kernel
theorem dX10_next_166 : decode cX10_next 166 = .ok (.getfield 59, 3) := by decide +kernel
theorem dX10_next_169 : decode cX10_next 169 = .ok (.aload_n 0, 1) := by decide +kernel
theorem dX10_next_170 : decode cX10_next 170 = .ok (.getfield 199, 3) := by decide +kernel
theorem dX10_next_173 : decode cX10_next 173 = .ok (.iconst (-1), 1) := by decide +kernel
theorem dX10_next_174 : decode cX10_next 174 = .ok (.iastore, 1) := by decide +kernel
theorem dX10_next_175 : decode cX10_next 175 = .ok (.aload_n 0, 1) := by decide +kernel
theorem dX10_next_176 : decode cX10_next 176 = .ok (.dup, 1) := by decide +kernel
theorem dX10_next_177 : decode cX10_next 177 = .ok (.getfield 199, 3) := by decide +kernel
theorem dX10_next_180 : decode cX10_next 180 = .ok (.iconst 1, 1) := by decide +kernel
theorem dX10_next_181 : decode cX10_next 181 = .ok (.iadd, 1) := by decide +kernel
theorem dX10_next_182 : decode cX10_next 182 = .ok (.putfield 199, 3) := by decide +kernel
theorem dX10_next_185 : decode cX10_next 185 = .ok (.goto (-131), 3) := by decide +kernel
theorem dX10_next_188 : decode cX10_next 188 = .ok (.iconst 0, 1) := by decide +kernel
theorem dX10_next_189 : decode cX10_next 189 = .ok (.ireturn, 1) := by decide +kernel
theorem dX10_maySearch_0 : decode cX10_maySearch 0 = .ok (.aload_n 0, 1) := by decide +kernel
theorem dX10_maySearch_1 : decode cX10_maySearch 1 = .ok (.aload_n 0, 1) := by decide +kernel
theorem dX10_maySearch_2 : decode cX10_maySearch 2 = .ok (.iload_n 1, 1) := by decide +kernel
theorem dX10_maySearch_3 : decode cX10_maySearch 3 = .ok (.invokevirtual 176, 3) := by decide +kernel
theorem dX10_maySearch_6 : decode cX10_maySearch 6 = .ok (.ifCond .eq 18, 3) := by decide +kernel
theorem dX10_maySearch_9 : decode cX10_maySearch 9 = .ok (.iload_n 2, 1) := by decide +kernel
theorem dX10_maySearch_10 : decode cX10_maySearch 10 = .ok (.iconst 1, 1) := by decide +kernel
theorem dX10_maySearch_11 : decode cX10_maySearch 11 = .ok (.if_icmp .lt 13, 3) := by decide +kernel
theorem dX10_maySearch_14 : decode cX10_maySearch 14 = .ok (.iload_n 2, 1) := by decide +kernel
theorem dX10_maySearch_15 : decode cX10_maySearch 15 = .ok (.bipush 8, 2) := by decide +kernel
theorem dX10_maySearch_17 : decode cX10_maySearch 17 = .ok (.if_icmp .gt 7, 3) := by decide +kernel
theorem dX10_maySearch_20 : decode cX10_maySearch 20 = .ok (.iconst 1, 1) := by decide +kernel
theorem dX10_maySearch_21 : decode cX10_maySearch 21 = .ok (.goto 4, 3) := by decide +kernel
theorem dX10_maySearch_24 : decode cX10_maySearch 24 = .ok (.iconst 0, 1) := by decide +kernel
theorem dX10_maySearch_25 : decode cX10_maySearch 25 = .ok (.iconst 1, 1) := by decide +kernel
theorem dX10_maySearch_26 : decode cX10_maySearch 26 = .ok (.invokevirtual 100, 3) := by decide +kernel
theorem dX10_maySearch_29 : decode cX10_maySearch 29 = .ok (.ireturn, 1) := by decide +kernel
theorem dX10_many_0 : decode cX10_many 0 = .ok (.aload_n 0, 1) := by decide +kernel
theorem dX10_many_1 : decode cX10_many 1 = .ok (.iconst 0, 1) := by decide +kernel
theorem dX10_many_2 : decode cX10_many 2 = .ok (.putfield 1, 3) := by decide +kernel
theorem dX10_many_5 : decode cX10_many 5 = .ok (.aload_n 0, 1) := by decide +kernel
theorem dX10_many_6 : decode cX10_many 6 = .ok (.iload_n 1, 1) := by decide +kernel
theorem dX10_many_7 : decode cX10_many 7 = .ok (.iload_n 2, 1) := by decide +kernel
theorem dX10_many_8 : decode cX10_many 8 = .ok (.invokevirtual 222, 3) := by decide +kernel
theorem dX10_many_11 : decode cX10_many 11 = .ok (.ifCond .eq 26, 3) := by decide +kernel
theorem dX10_many_14 : decode cX10_many 14 = .ok (.aload_n 0, 1) := by decide +kernel
theorem dX10_many_15 : decode cX10_many 15 = .ok (.iload_n 3, 1) := by decide +kernel
theorem dX10_many_16 : decode cX10_many 16 = .ok (.ifCond .lt 13, 3) := by decide +kernel
theorem dX10_many_19 : decode cX10_many 19 = .ok (.iload_n 3, 1) := by decide +kernel
theorem dX10_many_20 : decode cX10_many 20 = .ok (.bipush 60, 2) := by decide +kernel
theorem dX10_many_22 : decode cX10_many 22 = .ok (.if_icmp .gt 7, 3) := by decide +kernel
theorem dX10_many_25 : decode cX10_many 25 = .ok (.iconst 1, 1) := by decide +kernel
theorem dX10_many_26 : decode cX10_many 26 = .ok (.goto 4, 3) := by decide +kernel
theorem dX10_many_29 : decode cX10_many 29 = .ok (.iconst 0, 1) := by decide +kernel
theorem dX10_many_30 : decode cX10_many 30 = .ok (.iconst 1, 1) := by decide +kernel
theorem dX10_many_31 : decode cX10_many 31 = .ok (.invokevirtual 100, 3) := by decide +kernel
theorem dX10_many_34 : decode cX10_many 34 = .ok (.ifCond .ne 5, 3) := by decide +kernel
theorem dX10_many_37 : decode cX10_many 37 = .ok (.iconst 0, 1) := by decide +kernel
theorem dX10_many_38 : decode cX10_many 38 = .ok (.ireturn, 1) := by decide +kernel
theorem dX10_many_39 : decode cX10_many 39 = .ok (.aload_n 0, 1) := by decide +kernel
theorem dX10_many_40 : decode cX10_many 40 = .ok (.iconst 0, 1) := by decide +kernel
theorem dX10_many_41 : decode cX10_many 41 = .ok (.putfield 125, 3) := by decide +kernel
theorem dX10_many_44 : decode cX10_many 44 = .ok (.aload_n 0, 1) := by decide +kernel
theorem dX10_many_45 : decode cX10_many 45 = .ok (.iconst 0, 1) := by decide +kernel
theorem dX10_many_46 : decode cX10_many 46 = .ok (.putfield 195, 3) := by decide +kernel
theorem dX10_many_49 : decode cX10_many 49 = .ok (.aload_n 0, 1) := by decide +kernel
theorem dX10_many_50 : decode cX10_many 50 = .ok (.iload_n 1, 1) := by decide +kernel
theorem dX10_many_51 : decode cX10_many 51 = .ok (.iload_n 2, 1) := by decide +kernel
theorem dX10_many_52 : decode cX10_many 52 = .ok (.iload_n 3, 1) := by decide +kernel
theorem dX10_many_53 : decode cX10_many 53 = .ok (.invokevirtual 225, 3) := by decide +kernel
theorem dX10_many_56 : decode cX10_many 56 = .ok (.iconst 0, 1) := by decide +kernel
theorem dX10_many_57 : decode cX10_many 57 = .ok (.istore 4, 2) := by decide +kernel
theorem dX10_many_59 : decode cX10_many 59 = .ok (.aload_n 0, 1) := by decide +kernel
theorem dX10_many_60 : decode cX10_many 60 = .ok (.invokevirtual 229, 3) := by decide +kernel
theorem dX10_many_63 : decode cX10_many 63 = .ok (.ifCond .eq 9, 3) := by decide +kernel
theorem dX10_many_66 : decode cX10_many 66 = .ok (.iinc 4 1, 3) := by decide +kernel
theorem dX10_many_69 : decode cX10_many 69 = .ok (.goto (-10), 3) := by decide +kernel
theorem dX10_many_72 : decode cX10_many 72 = .ok (.aload_n 0, 1) := by decide +kernel
theorem dX10_many_73 : decode cX10_many 73 = .ok (.getfield 208, 3) := by decide +kernel
theorem dX10_many_76 : decode cX10_many 76 = .ok (.ifCond .eq 8, 3) := by decide +kernel
theorem dX10_many_79 : decode cX10_many 79 = .ok (.bipush (-2), 2) := by decide +kernel
theorem dX10_many_81 : decode cX10_many 81 = .ok (.goto 5, 3) := by decide +kernel
theorem dX10_many_84 : decode cX10_many 84 = .ok (.iload 4, 2) := by decide +kernel
theorem dX10_many_86 : decode cX10_many 86 = .ok (.ireturn, 1) := by decide +kernel
theorem dX10_find_0 : decode cX10_find 0 = .ok (.aload_n 0, 1) := by decide +kernel
theorem dX10_find_1 : decode cX10_find 1 = .ok (.iconst 0, 1) := by decide +kernel
theorem dX10_find_2 : decode cX10_find 2 = .ok (.putfield 1, 3) := by decide +kernel
theorem dX10_find_5 : decode cX10_find 5 = .ok (.aload_n 0, 1) := by decide +kernel
theorem dX10_find_6 : decode cX10_find 6 = .ok (.iload_n 1, 1) := by decide +kernel
theorem dX10_find_7 : decode cX10_find 7 = .ok (.iload_n 2, 1) := by decide +kernel
theorem dX10_find_8 : decode cX10_find 8 = .ok (.invokevirtual 222, 3) := by decide +kernel
theorem dX10_find_11 : decode cX10_find 11 = .ok (.ifCond .eq 40, 3) := by decide +kernel
theorem dX10_find_14 : decode cX10_find 14 = .ok (.aload_n 0, 1) := by decide +kernel
theorem dX10_find_15 : decode cX10_find 15 = .ok (.iload_n 3, 1) := by decide +kernel
theorem dX10_find_16 : decode cX10_find 16 = .ok (.ifCond .lt 13, 3) := by decide +kernel
theorem dX10_find_19 : decode cX10_find 19 = .ok (.iload_n 3, 1) := by decide +kernel
theorem dX10_find_20 : decode cX10_find 20 = .ok (.bipush 60, 2) := by decide +kernel
theorem dX10_find_22 : decode cX10_find 22 = .ok (.if_icmp .gt 7, 3) := by decide +kernel
theorem dX10_find_25 : decode cX10_find 25 = .ok (.iconst 1, 1) := by decide +kernel
theorem dX10_find_26 : decode cX10_find 26 = .ok (.goto 4, 3) := by decide +kernel
theorem dX10_find_29 : decode cX10_find 29 = .ok (.iconst 0, 1) := by decide +kernel
theorem dX10_find_30 : decode cX10_find 30 = .ok (.iconst 1, 1) := by decide +kernel
theorem dX10_find_31 : decode cX10_find 31 = .ok (.invokevirtual 100, 3) := by decide +kernel
theorem dX10_find_34 : decode cX10_find 34 = .ok (.ifCond .eq 17, 3) := by decide +kernel
theorem dX10_find_37 : decode cX10_find 37 = .ok (.aload_n 0, 1) := by decide +kernel
theorem dX10_find_38 : decode cX10_find 38 = .ok (.aload_n 0, 1) := by decide +kernel
theorem dX10_find_39 : decode cX10_find 39 = .ok (.iload 5, 2) := by decide +kernel
theorem dX10_find_41 : decode cX10_find 41 = .ok (.invokevirtual 107, 3) := by decide +kernel
theorem dX10_find_44 : decode cX10_find 44 = .ok (.iconst 2, 1) := by decide +kernel
theorem dX10_find_45 : decode cX10_find 45 = .ok (.invokevirtual 100, 3) := by decide +kernel
theorem dX10_find_48 : decode cX10_find 48 = .ok (.ifCond .ne 5, 3) := by decide +kernel
theorem dX10_find_51 : decode cX10_find 51 = .ok (.iconst 0, 1) := by decide +kernel
theorem dX10_find_52 : decode cX10_find 52 = .ok (.ireturn, 1) := by decide +kernel
theorem dX10_find_53 : decode cX10_find 53 = .ok (.iload 4, 2) := by decide +kernel
theorem dX10_find_55 : decode cX10_find 55 = .ok (.ifCond .ge 5, 3) := by decide +kernel
theorem dX10_find_58 : decode cX10_find 58 = .ok (.iconst 0, 1) := by decide +kernel
theorem dX10_find_59 : decode cX10_find 59 = .ok (.ireturn, 1) := by decide +kernel
theorem dX10_find_60 : decode cX10_find 60 = .ok (.aload_n 0, 1) := by decide +kernel
theorem dX10_find_61 : decode cX10_find 61 = .ok (.iconst 0, 1) := by decide +kernel
theorem dX10_find_62 : decode cX10_find 62 = .ok (.putfield 125, 3) := by decide +kernel
theorem dX10_find_65 : decode cX10_find 65 = .ok (.aload_n 0, 1) := by decide +kernel
theorem dX10_find_66 : decode cX10_find 66 = .ok (.iconst 0, 1) := by decide +kernel
theorem dX10_find_67 : decode cX10_find 67 = .ok (.putfield 195, 3) := by decide +kernel
theorem dX10_find_70 : decode cX10_find 70 = .ok (.aload_n 0, 1) := by decide +kernel
theorem dX10_find_71 : decode cX10_find 71 = .ok (.iload_n 1, 1) := by decide +kernel
theorem dX10_find_72 : decode cX10_find 72 = .ok (.iload_n 2, 1) := by decide +kernel
theorem dX10_find_73 : decode cX10_find 73 = .ok (.iload_n 3, 1) := by decide +kernel
theorem dX10_find_74 : decode cX10_find 74 = .ok (.invokevirtual 225, 3) := by decide +kernel
theorem dX10_find_77 : decode cX10_find 77 = .ok (.iconst 0, 1) := by decide +kernel
theorem dX10_find_78 : decode cX10_find 78 = .ok (.istore 6, 2) := by decide +kernel
theorem dX10_find_80 : decode cX10_find 80 = .ok (.aload_n 0, 1) := by decide +kernel
theorem dX10_find_81 : decode cX10_find 81 = .ok (.invokevirtual 229, 3) := by decide +kernel
theorem dX10_find_84 : decode cX10_find 84 = .ok (.ifCond .eq 29, 3) := by decide +kernel
theorem dX10_find_87 : decode cX10_find 87 = .ok (.iload 6, 2) := by decide +kernel
theorem dX10_find_89 : decode cX10_find 89 = .ok (.iload 4, 2) := by decide +kernel
theorem dX10_find_91 : decode cX10_find 91 = .ok (.if_icmp .ne 16, 3) := by decide +kernel
theorem dX10_find_94 : decode cX10_find 94 = .ok (.aload_n 0, 1) := by decide +kernel
theorem dX10_find_95 : decode cX10_find 95 = .ok (.iload 5, 2) := by decide +kernel
theorem dX10_find_97 : decode cX10_find 97 = .ok (.aload_n 0, 1) := by decide +kernel
theorem dX10_find_98 : decode cX10_find 98 = .ok (.getfield 59, 3) := by decide +kernel
theorem dX10_find_101 : decode cX10_find 101 = .ok (.iload_n 3, 1) := by decide +kernel
theorem dX10_find_102 : decode cX10_find 102 = .ok (.invokevirtual 232, 3) := by decide +kernel
theorem dX10_find_105 : decode cX10_find 105 = .ok (.iconst 1, 1) := by decide +kernel
theorem dX10_find_106 : decode cX10_find 106 = .ok (.ireturn, 1) := by decide +kernel
theorem dX10_find_107 : decode cX10_find 107 = .ok (.iinc 6 1, 3) := by decide +kernel
theorem dX10_find_110 : decode cX10_find 110 = .ok (.goto (-30), 3) := by decide +kernel
theorem dX10_find_113 : decode cX10_find 113 = .ok (.aload_n 0, 1) := by decide +kernel
theorem dX10_find_114 : decode cX10_find 114 = .ok (.getfield 208, 3) := by decide +kernel
theorem dX10_find_117 : decode cX10_find 117 = .ok (.ifCond .eq 8, 3) := by decide +kernel
theorem dX10_find_120 : decode cX10_find 120 = .ok (.bipush (-2), 2) := by decide +kernel
theorem dX10_find_122 : decode cX10_find 122 = .ok (.goto 4, 3) := by decide +kernel
theorem dX10_find_125 : decode cX10_find 125 = .ok (.iconst 0, 1) := by decide +kernel
theorem dX10_find_126 : decode cX10_find 126 = .ok (.ireturn, 1) := by decide +kernel
theorem dX10_rank_0 : decode cX10_rank 0 = .ok (.aload_n 0, 1) := by decide +kernel
theorem dX10_rank_1 : decode cX10_rank 1 = .ok (.iconst 0, 1) := by decide +kernel
theorem dX10_rank_2 : decode cX10_rank 2 = .ok (.putfield 1, 3) := by decide +kernel
theorem dX10_rank_5 : decode cX10_rank 5 = .ok (.aload_n 0, 1) := by decide +kernel
theorem dX10_rank_6 : decode cX10_rank 6 = .ok (.iload_n 1, 1) := by decide +kernel
theorem dX10_rank_7 : decode cX10_rank 7 = .ok (.iload_n 2, 1) := by decide +kernel
theorem dX10_rank_8 : decode cX10_rank 8 = .ok (.invokevirtual 222, 3) := by decide +kernel
theorem dX10_rank_11 : decode cX10_rank 11 = .ok (.ifCond .eq 14, 3) := by decide +kernel
theorem dX10_rank_14 : decode cX10_rank 14 = .ok (.aload_n 0, 1) := by decide +kernel
theorem dX10_rank_15 : decode cX10_rank 15 = .ok (.iload_n 3, 1) := by decide +kernel
theorem dX10_rank_16 : decode cX10_rank 16 = .ok (.iload 4, 2) := by decide +kernel
theorem dX10_rank_18 : decode cX10_rank 18 = .ok (.iconst 2, 1) := by decide +kernel
theorem dX10_rank_19 : decode cX10_rank 19 = .ok (.invokevirtual 111, 3) := by decide +kernel
theorem dX10_rank_22 : decode cX10_rank 22 = .ok (.ifCond .ne 5, 3) := by decide +kernel
theorem dX10_rank_25 : decode cX10_rank 25 = .ok (.iconst 0, 1) := by decide +kernel
theorem dX10_rank_26 : decode cX10_rank 26 = .ok (.ireturn, 1) := by decide +kernel
theorem dX10_rank_27 : decode cX10_rank 27 = .ok (.aload_n 0, 1) := by decide +kernel
theorem dX10_rank_28 : decode cX10_rank 28 = .ok (.iload_n 3, 1) := by decide +kernel
theorem dX10_rank_29 : decode cX10_rank 29 = .ok (.iload 4, 2) := by decide +kernel
theorem dX10_rank_31 : decode cX10_rank 31 = .ok (.invokevirtual 118, 3) := by decide +kernel
theorem dX10_rank_34 : decode cX10_rank 34 = .ok (.ifCond .ne 5, 3) := by decide +kernel
theorem dX10_rank_37 : decode cX10_rank 37 = .ok (.iconst (-1), 1) := by decide +kernel
theorem dX10_rank_38 : decode cX10_rank 38 = .ok (.ireturn, 1) := by decide +kernel
theorem dX10_rank_39 : decode cX10_rank 39 = .ok (.aload_n 0, 1) := by decide +kernel
theorem dX10_rank_40 : decode cX10_rank 40 = .ok (.getfield 115, 3) := by decide +kernel
theorem dX10_rank_43 : decode cX10_rank 43 = .ok (.istore 5, 2) := by decide +kernel
theorem dX10_rank_45 : decode cX10_rank 45 = .ok (.iconst 0, 1) := by decide +kernel
theorem dX10_rank_46 : decode cX10_rank 46 = .ok (.istore 6, 2) := by decide +kernel
theorem dX10_rank_48 : decode cX10_rank 48 = .ok (.iload 6, 2) := by decide +kernel
theorem dX10_rank_50 : decode cX10_rank 50 = .ok (.iload 5, 2) := by decide +kernel
theorem dX10_rank_52 : decode cX10_rank 52 = .ok (.if_icmp .ge 36, 3) := by decide +kernel
theorem dX10_rank_55 : decode cX10_rank 55 = .ok (.aload_n 0, 1) := by decide +kernel
theorem dX10_rank_56 : decode cX10_rank 56 = .ok (.getfield 62, 3) := by decide +kernel
theorem dX10_rank_59 : decode cX10_rank 59 = .ok (.iload 6, 2) := by decide +kernel
theorem dX10_rank_61 : decode cX10_rank 61 = .ok (.aload_n 0, 1) := by decide +kernel
theorem dX10_rank_62 : decode cX10_rank 62 = .ok (.getfield 23, 3) := by decide +kernel
theorem dX10_rank_65 : decode cX10_rank 65 = .ok (.iload 6, 2) := by decide +kernel
theorem dX10_rank_67 : decode cX10_rank 67 = .ok (.iaload, 1) := by decide +kernel
theorem dX10_rank_68 : decode cX10_rank 68 = .ok (.iastore, 1) := by decide +kernel
theorem dX10_rank_69 : decode cX10_rank 69 = .ok (.aload_n 0, 1) := by decide +kernel
theorem dX10_rank_70 : decode cX10_rank 70 = .ok (.getfield 23, 3) := by decide +kernel
theorem dX10_rank_73 : decode cX10_rank 73 = .ok (.iload 6, 2) := by decide +kernel
theorem dX10_rank_75 : decode cX10_rank 75 = .ok (.iaload, 1) := by decide +kernel
theorem dX10_rank_76 : decode cX10_rank 76 = .ok (.iload_n 2, 1) := by decide +kernel
theorem dX10_rank_77 : decode cX10_rank 77 = .ok (.if_icmp .lt 5, 3) := by decide +kernel
theorem dX10_rank_80 : decode cX10_rank 80 = .ok (.iconst (-1), 1) := by decide +kernel
theorem dX10_rank_81 : decode cX10_rank 81 = .ok (.ireturn, 1) := by decide +kernel
theorem dX10_rank_82 : decode cX10_rank 82 = .ok (.iinc 6 1, 3) := by decide +kernel
theorem dX10_rank_85 : decode cX10_rank 85 = .ok (.goto (-37), 3) := by decide +kernel
theorem dX10_rank_88 : decode cX10_rank 88 = .ok (.aload_n 0, 1) := by decide +kernel
theorem dX10_rank_89 : decode cX10_rank 89 = .ok (.iload_n 1, 1) := by decide +kernel
theorem dX10_rank_90 : decode cX10_rank 90 = .ok (.aload_n 0, 1) := by decide +kernel
theorem dX10_rank_91 : decode cX10_rank 91 = .ok (.getfield 62, 3) := by decide +kernel
theorem dX10_rank_94 : decode cX10_rank 94 = .ok (.iload 5, 2) := by decide +kernel
theorem dX10_rank_96 : decode cX10_rank 96 = .ok (.invokevirtual 179, 3) := by decide +kernel
theorem dX10_rank_99 : decode cX10_rank 99 = .ok (.aload_n 0, 1) := by decide +kernel
theorem dX10_rank_100 : decode cX10_rank 100 = .ok (.getfield 167, 3) := by decide +kernel
theorem dX10_rank_103 : decode cX10_rank 103 = .ok (.iconst (-1), 1) := by decide +kernel
theorem dX10_rank_104 : decode cX10_rank 104 = .ok (.if_icmp .eq 5, 3) := by decide +kernel
theorem dX10_rank_107 : decode cX10_rank 107 = .ok (.iconst (-1), 1) := by decide +kernel
theorem dX10_rank_108 : decode cX10_rank 108 = .ok (.ireturn, 1) := by decide +kernel
theorem dX10_rank_109 : decode cX10_rank 109 = .ok (.aload_n 0, 1) := by decide +kernel
theorem dX10_rank_110 : decode cX10_rank 110 = .ok (.iconst 0, 1) := by decide +kernel
theorem dX10_rank_111 : decode cX10_rank 111 = .ok (.putfield 125, 3) := by decide +kernel
theorem dX10_rank_114 : decode cX10_rank 114 = .ok (.aload_n 0, 1) := by decide +kernel
theorem dX10_rank_115 : decode cX10_rank 115 = .ok (.iconst 0, 1) := by decide +kernel
theorem dX10_rank_116 : decode cX10_rank 116 = .ok (.putfield 195, 3) := by decide +kernel
theorem dX10_rank_119 : decode cX10_rank 119 = .ok (.aload_n 0, 1) := by decide +kernel
theorem dX10_rank_120 : decode cX10_rank 120 = .ok (.iload_n 1, 1) := by decide +kernel
theorem dX10_rank_121 : decode cX10_rank 121 = .ok (.iload_n 2, 1) := by decide +kernel
theorem dX10_rank_122 : decode cX10_rank 122 = .ok (.iload 5, 2) := by decide +kernel
theorem dX10_rank_124 : decode cX10_rank 124 = .ok (.invokevirtual 225, 3) := by decide +kernel
theorem dX10_rank_127 : decode cX10_rank 127 = .ok (.iconst 0, 1) := by decide +kernel
theorem dX10_rank_128 : decode cX10_rank 128 = .ok (.istore 6, 2) := by decide +kernel
theorem dX10_rank_130 : decode cX10_rank 130 = .ok (.aload_n 0, 1) := by decide +kernel
theorem dX10_rank_131 : decode cX10_rank 131 = .ok (.invokevirtual 229, 3) := by decide +kernel
theorem dX10_rank_134 : decode cX10_rank 134 = .ok (.ifCond .eq 65, 3) := by decide +kernel
theorem dX10_rank_137 : decode cX10_rank 137 = .ok (.iconst 1, 1) := by decide +kernel
theorem dX10_rank_138 : decode cX10_rank 138 = .ok (.istore 7, 2) := by decide +kernel
theorem dX10_rank_140 : decode cX10_rank 140 = .ok (.iconst 0, 1) := by decide +kernel
theorem dX10_rank_141 : decode cX10_rank 141 = .ok (.istore 8, 2) := by decide +kernel
theorem dX10_rank_143 : decode cX10_rank 143 = .ok (.iload 8, 2) := by decide +kernel
theorem dX10_rank_145 : decode cX10_rank 145 = .ok (.iload 5, 2) := by decide +kernel
theorem dX10_rank_147 : decode cX10_rank 147 = .ok (.if_icmp .ge 38, 3) := by decide +kernel
theorem dX10_rank_150 : decode cX10_rank 150 = .ok (.iload 7, 2) := by decide +kernel
theorem dX10_rank_152 : decode cX10_rank 152 = .ok (.ifCond .eq 33, 3) := by decide +kernel
theorem dX10_rank_155 : decode cX10_rank 155 = .ok (.aload_n 0, 1) := by decide +kernel
theorem dX10_rank_156 : decode cX10_rank 156 = .ok (.getfield 59, 3) := by decide +kernel
theorem dX10_rank_159 : decode cX10_rank 159 = .ok (.iload 8, 2) := by decide +kernel
theorem dX10_rank_161 : decode cX10_rank 161 = .ok (.iaload, 1) := by decide +kernel
theorem dX10_rank_162 : decode cX10_rank 162 = .ok (.aload_n 0, 1) := by decide +kernel
theorem dX10_rank_163 : decode cX10_rank 163 = .ok (.getfield 62, 3) := by decide +kernel
theorem dX10_rank_166 : decode cX10_rank 166 = .ok (.iload 8, 2) := by decide +kernel
theorem dX10_rank_168 : decode cX10_rank 168 = .ok (.iaload, 1) := by decide +kernel
theorem dX10_rank_169 : decode cX10_rank 169 = .ok (.if_icmp .ne 7, 3) := by decide +kernel
theorem dX10_rank_172 : decode cX10_rank 172 = .ok (.iconst 1, 1) := by decide +kernel
theorem dX10_rank_173 : decode cX10_rank 173 = .ok (.goto 4, 3) := by decide +kernel
theorem dX10_rank_176 : decode cX10_rank 176 = .ok (.iconst 0, 1) := by decide +kernel
theorem dX10_rank_177 : decode cX10_rank 177 = .ok (.istore 7, 2) := by decide +kernel
theorem dX10_rank_179 : decode cX10_rank 179 = .ok (.iinc 8 1, 3) := by decide +kernel
theorem dX10_rank_182 : decode cX10_rank 182 = .ok (.goto (-39), 3) := by decide +kernel
theorem dX10_rank_185 : decode cX10_rank 185 = .ok (.iload 7, 2) := by decide +kernel
theorem dX10_rank_187 : decode cX10_rank 187 = .ok (.ifCond .eq 6, 3) := by decide +kernel
theorem dX10_rank_190 : decode cX10_rank 190 = .ok (.iload 6, 2) := by decide +kernel
theorem dX10_rank_192 : decode cX10_rank 192 = .ok (.ireturn, 1) := by decide +kernel
theorem dX10_rank_193 : decode cX10_rank 193 = .ok (.iinc 6 1, 3) := by decide +kernel
theorem dX10_rank_196 : decode cX10_rank 196 = .ok (.goto (-66), 3) := by decide +kernel
theorem dX10_rank_199 : decode cX10_rank 199 = .ok (.bipush (-2), 2) := by decide +kernel
theorem dX10_rank_201 : decode cX10_rank 201 = .ok (.ireturn, 1) := by decide +kernel
theorem dX10_longest_0 : decode cX10_longest 0 = .ok (.aload_n 0, 1) := by decide +kernel
theorem dX10_longest_1 : decode cX10_longest 1 = .ok (.iconst 0, 1) := by decide +kernel
theorem dX10_longest_2 : decode cX10_longest 2 = .ok (.putfield 1, 3) := by decide +kernel
theorem dX10_longest_5 : decode cX10_longest 5 = .ok (.aload_n 0, 1) := by decide +kernel
theorem dX10_longest_6 : decode cX10_longest 6 = .ok (.iload_n 1, 1) := by decide +kernel
theorem dX10_longest_7 : decode cX10_longest 7 = .ok (.iload_n 2, 1) := by decide +kernel
theorem dX10_longest_8 : decode cX10_longest 8 = .ok (.invokevirtual 222, 3) := by decide +kernel
theorem dX10_longest_11 : decode cX10_longest 11 = .ok (.ifCond .ne 5, 3) := by decide +kernel
theorem dX10_longest_14 : decode cX10_longest 14 = .ok (.iconst 0, 1) := by decide +kernel
theorem dX10_longest_15 : decode cX10_longest 15 = .ok (.ireturn, 1) := by decide +kernel
theorem dX10_longest_16 : decode cX10_longest 16 = .ok (.aload_n 0, 1) := by decide +kernel
theorem dX10_longest_17 : decode cX10_longest 17 = .ok (.iconst 0, 1) := by decide +kernel
theorem dX10_longest_18 : decode cX10_longest 18 = .ok (.putfield 125, 3) := by decide +kernel
theorem dX10_longest_21 : decode cX10_longest 21 = .ok (.aload_n 0, 1) := by decide +kernel
theorem dX10_longest_22 : decode cX10_longest 22 = .ok (.iconst 0, 1) := by decide +kernel
theorem dX10_longest_23 : decode cX10_longest 23 = .ok (.putfield 195, 3) := by decide +kernel
theorem dX10_longest_26 : decode cX10_longest 26 = .ok (.aload_n 0, 1) := by decide +kernel
theorem dX10_longest_27 : decode cX10_longest 27 = .ok (.iload_n 1, 1) := by decide +kernel
theorem dX10_longest_28 : decode cX10_longest 28 = .ok (.iload_n 2, 1) := by decide +kernel
theorem dX10_longest_29 : decode cX10_longest 29 = .ok (.bipush 60, 2) := by decide +kernel
theorem dX10_longest_31 : decode cX10_longest 31 = .ok (.invokevirtual 225, 3) := by decide +kernel
theorem dX10_longest_34 : decode cX10_longest 34 = .ok (.aload_n 0, 1) := by decide +kernel
theorem dX10_longest_35 : decode cX10_longest 35 = .ok (.invokevirtual 229, 3) := by decide +kernel
theorem dX10_longest_38 : decode cX10_longest 38 = .ok (.ifCond .eq 5, 3) := by decide +kernel
theorem dX10_longest_41 : decode cX10_longest 41 = .ok (.iconst (-1), 1) := by decide +kernel
theorem dX10_longest_42 : decode cX10_longest 42 = .ok (.ireturn, 1) := by decide +kernel
theorem dX10_longest_43 : decode cX10_longest 43 = .ok (.aload_n 0, 1) := by decide +kernel
theorem dX10_longest_44 : decode cX10_longest 44 = .ok (.getfield 208, 3) := by decide +kernel
theorem dX10_longest_47 : decode cX10_longest 47 = .ok (.ifCond .eq 8, 3) := by decide +kernel
theorem dX10_longest_50 : decode cX10_longest 50 = .ok (.bipush (-2), 2) := by decide +kernel
theorem dX10_longest_52 : decode cX10_longest 52 = .ok (.goto 7, 3) := by decide +kernel
theorem dX10_longest_55 : decode cX10_longest 55 = .ok (.aload_n 0, 1) := by decide +kernel
theorem dX10_longest_56 : decode cX10_longest 56 = .ok (.getfield 202, 3) := by decide +kernel
theorem dX10_longest_59 : decode cX10_longest 59 = .ok (.ireturn, 1) := by decide +kernel
theorem dX10_map_0 : decode cX10_map 0 = .ok (.aload_n 0, 1) := by decide +kernel
theorem dX10_map_1 : decode cX10_map 1 = .ok (.iconst 0, 1) := by decide +kernel
theorem dX10_map_2 : decode cX10_map 2 = .ok (.putfield 1, 3) := by decide +kernel
theorem dX10_map_5 : decode cX10_map 5 = .ok (.aload_n 0, 1) := by decide +kernel
theorem dX10_map_6 : decode cX10_map 6 = .ok (.iload_n 1, 1) := by decide +kernel
theorem dX10_map_7 : decode cX10_map 7 = .ok (.ifCond .lt 24, 3) := by decide +kernel
theorem dX10_map_10 : decode cX10_map 10 = .ok (.iload_n 1, 1) := by decide +kernel
theorem dX10_map_11 : decode cX10_map 11 = .ok (.bipush 8, 2) := by decide +kernel
theorem dX10_map_13 : decode cX10_map 13 = .ok (.if_icmp .ge 18, 3) := by decide +kernel
theorem dX10_map_16 : decode cX10_map 16 = .ok (.iload_n 2, 1) := by decide +kernel
theorem dX10_map_17 : decode cX10_map 17 = .ok (.iconst 1, 1) := by decide +kernel
theorem dX10_map_18 : decode cX10_map 18 = .ok (.if_icmp .lt 13, 3) := by decide +kernel
theorem dX10_map_21 : decode cX10_map 21 = .ok (.iload_n 2, 1) := by decide +kernel
theorem dX10_map_22 : decode cX10_map 22 = .ok (.bipush 8, 2) := by decide +kernel
theorem dX10_map_24 : decode cX10_map 24 = .ok (.if_icmp .gt 7, 3) := by decide +kernel
theorem dX10_map_27 : decode cX10_map 27 = .ok (.iconst 1, 1) := by decide +kernel
theorem dX10_map_28 : decode cX10_map 28 = .ok (.goto 4, 3) := by decide +kernel
theorem dX10_map_31 : decode cX10_map 31 = .ok (.iconst 0, 1) := by decide +kernel
theorem dX10_map_32 : decode cX10_map 32 = .ok (.iconst 1, 1) := by decide +kernel
theorem dX10_map_33 : decode cX10_map 33 = .ok (.invokevirtual 100, 3) := by decide +kernel
theorem dX10_map_36 : decode cX10_map 36 = .ok (.ifCond .ne 5, 3) := by decide +kernel
theorem dX10_map_39 : decode cX10_map 39 = .ok (.iconst 0, 1) := by decide +kernel
theorem dX10_map_40 : decode cX10_map 40 = .ok (.ireturn, 1) := by decide +kernel
theorem dX10_map_41 : decode cX10_map 41 = .ok (.aload_n 0, 1) := by decide +kernel
theorem dX10_map_42 : decode cX10_map 42 = .ok (.aload_n 0, 1) := by decide +kernel
theorem dX10_map_43 : decode cX10_map 43 = .ok (.iload_n 3, 1) := by decide +kernel
theorem dX10_map_44 : decode cX10_map 44 = .ok (.invokevirtual 107, 3) := by decide +kernel
theorem dX10_map_47 : decode cX10_map 47 = .ok (.ifCond .eq 21, 3) := by decide +kernel
theorem dX10_map_50 : decode cX10_map 50 = .ok (.iload 4, 2) := by decide +kernel
theorem dX10_map_52 : decode cX10_map 52 = .ok (.ifCond .lt 16, 3) := by decide +kernel
theorem dX10_map_55 : decode cX10_map 55 = .ok (.iload 4, 2) := by decide +kernel
theorem dX10_map_57 : decode cX10_map 57 = .ok (.bipush 10, 2) := by decide +kernel
theorem dX10_map_59 : decode cX10_map 59 = .ok (.iload_n 2, 1) := by decide +kernel
theorem dX10_map_60 : decode cX10_map 60 = .ok (.isub, 1) := by decide +kernel
theorem dX10_map_61 : decode cX10_map 61 = .ok (.if_icmp .gt 7, 3) := by decide +kernel
theorem dX10_map_64 : decode cX10_map 64 = .ok (.iconst 1, 1) := by decide +kernel
theorem dX10_map_65 : decode cX10_map 65 = .ok (.goto 4, 3) := by decide +kernel
theorem dX10_map_68 : decode cX10_map 68 = .ok (.iconst 0, 1) := by decide +kernel
theorem dX10_map_69 : decode cX10_map 69 = .ok (.iconst 2, 1) := by decide +kernel
theorem dX10_map_70 : decode cX10_map 70 = .ok (.invokevirtual 100, 3) := by decide +kernel
theorem dX10_map_73 : decode cX10_map 73 = .ok (.ifCond .ne 5, 3) := by decide +kernel
theorem dX10_map_76 : decode cX10_map 76 = .ok (.iconst 0, 1) := by decide +kernel
theorem dX10_map_77 : decode cX10_map 77 = .ok (.ireturn, 1) := by decide +kernel
theorem dX10_map_78 : decode cX10_map 78 = .ok (.iconst 0, 1) := by decide +kernel
theorem dX10_map_79 : decode cX10_map 79 = .ok (.istore 5, 2) := by decide +kernel
theorem dX10_map_81 : decode cX10_map 81 = .ok (.iload 5, 2) := by decide +kernel
theorem dX10_map_83 : decode cX10_map 83 = .ok (.iload_n 2, 1) := by decide +kernel
theorem dX10_map_84 : decode cX10_map 84 = .ok (.if_icmp .ge 72, 3) := by decide +kernel
theorem dX10_map_87 : decode cX10_map 87 = .ok (.aload_n 0, 1) := by decide +kernel
theorem dX10_map_88 : decode cX10_map 88 = .ok (.iload_n 3, 1) := by decide +kernel
theorem dX10_map_89 : decode cX10_map 89 = .ok (.iload 4, 2) := by decide +kernel
theorem dX10_map_91 : decode cX10_map 91 = .ok (.iload 5, 2) := by decide +kernel
theorem dX10_map_93 : decode cX10_map 93 = .ok (.iadd, 1) := by decide +kernel
theorem dX10_map_94 : decode cX10_map 94 = .ok (.invokevirtual 118, 3) := by decide +kernel
theorem dX10_map_97 : decode cX10_map 97 = .ok (.ifCond .eq 20, 3) := by decide +kernel
theorem dX10_map_100 : decode cX10_map 100 = .ok (.aload_n 0, 1) := by decide +kernel
theorem dX10_map_101 : decode cX10_map 101 = .ok (.getfield 115, 3) := by decide +kernel
theorem dX10_map_104 : decode cX10_map 104 = .ok (.iconst 1, 1) := by decide +kernel
theorem dX10_map_105 : decode cX10_map 105 = .ok (.if_icmp .lt 12, 3) := by decide +kernel
theorem dX10_map_108 : decode cX10_map 108 = .ok (.aload_n 0, 1) := by decide +kernel
theorem dX10_map_109 : decode cX10_map 109 = .ok (.getfield 115, 3) := by decide +kernel
theorem dX10_map_112 : decode cX10_map 112 = .ok (.bipush 20, 2) := by decide +kernel
theorem dX10_map_114 : decode cX10_map 114 = .ok (.if_icmp .le 5, 3) := by decide +kernel
theorem dX10_map_117 : decode cX10_map 117 = .ok (.iconst 0, 1) := by decide +kernel
theorem dX10_map_118 : decode cX10_map 118 = .ok (.ireturn, 1) := by decide +kernel
theorem dX10_map_119 : decode cX10_map 119 = .ok (.iconst 0, 1) := by decide +kernel
theorem dX10_map_120 : decode cX10_map 120 = .ok (.istore 6, 2) := by decide +kernel
theorem dX10_map_122 : decode cX10_map 122 = .ok (.iload 6, 2) := by decide +kernel
theorem dX10_map_124 : decode cX10_map 124 = .ok (.aload_n 0, 1) := by decide +kernel
theorem dX10_map_125 : decode cX10_map 125 = .ok (.getfield 115, 3) := by decide +kernel
theorem dX10_map_128 : decode cX10_map 128 = .ok (.if_icmp .ge 22, 3) := by decide +kernel
theorem dX10_map_131 : decode cX10_map 131 = .ok (.aload_n 0, 1) := by decide +kernel
theorem dX10_map_132 : decode cX10_map 132 = .ok (.getfield 23, 3) := by decide +kernel
theorem dX10_map_135 : decode cX10_map 135 = .ok (.iload 6, 2) := by decide +kernel
theorem dX10_map_137 : decode cX10_map 137 = .ok (.iaload, 1) := by decide +kernel
theorem dX10_map_138 : decode cX10_map 138 = .ok (.iload_n 2, 1) := by decide +kernel
theorem dX10_map_139 : decode cX10_map 139 = .ok (.if_icmp .lt 5, 3) := by decide +kernel
theorem dX10_map_142 : decode cX10_map 142 = .ok (.iconst 0, 1) := by decide +kernel
theorem dX10_map_143 : decode cX10_map 143 = .ok (.ireturn, 1) := by decide +kernel
theorem dX10_map_144 : decode cX10_map 144 = .ok (.iinc 6 1, 3) := by decide +kernel
theorem dX10_map_147 : decode cX10_map 147 = .ok (.goto (-25), 3) := by decide +kernel
theorem dX10_map_150 : decode cX10_map 150 = .ok (.iinc 5 1, 3) := by decide +kernel
theorem dX10_map_153 : decode cX10_map 153 = .ok (.goto (-72), 3) := by decide +kernel
theorem dX10_map_156 : decode cX10_map 156 = .ok (.iconst 0, 1) := by decide +kernel
theorem dX10_map_157 : decode cX10_map 157 = .ok (.istore 5, 2) := by decide +kernel
theorem dX10_map_159 : decode cX10_map 159 = .ok (.iload 5, 2) := by decide +kernel
theorem dX10_map_161 : decode cX10_map 161 = .ok (.iload_n 2, 1) := by decide +kernel
theorem dX10_map_162 : decode cX10_map 162 = .ok (.if_icmp .ge 79, 3) := by decide +kernel
theorem dX10_map_165 : decode cX10_map 165 = .ok (.aload_n 0, 1) := by decide +kernel
theorem dX10_map_166 : decode cX10_map 166 = .ok (.iload_n 3, 1) := by decide +kernel
theorem dX10_map_167 : decode cX10_map 167 = .ok (.iload 4, 2) := by decide +kernel
theorem dX10_map_169 : decode cX10_map 169 = .ok (.iload 5, 2) := by decide +kernel
theorem dX10_map_171 : decode cX10_map 171 = .ok (.iadd, 1) := by decide +kernel
theorem dX10_map_172 : decode cX10_map 172 = .ok (.invokevirtual 118, 3) := by decide +kernel
theorem dX10_map_175 : decode cX10_map 175 = .ok (.pop, 1) := by decide +kernel
theorem dX10_map_176 : decode cX10_map 176 = .ok (.aload_n 0, 1) := by decide +kernel
theorem dX10_map_177 : decode cX10_map 177 = .ok (.getfield 72, 3) := by decide +kernel
theorem dX10_map_180 : decode cX10_map 180 = .ok (.bipush 8, 2) := by decide +kernel
theorem dX10_map_182 : decode cX10_map 182 = .ok (.iload_n 1, 1) := by decide +kernel
theorem dX10_map_183 : decode cX10_map 183 = .ok (.imul, 1) := by decide +kernel
theorem dX10_map_184 : decode cX10_map 184 = .ok (.iload 5, 2) := by decide +kernel
theorem dX10_map_186 : decode cX10_map 186 = .ok (.iadd, 1) := by decide +kernel
theorem dX10_map_187 : decode cX10_map 187 = .ok (.aload_n 0, 1) := by decide +kernel
theorem dX10_map_188 : decode cX10_map 188 = .ok (.getfield 115, 3) := by decide +kernel
theorem dX10_map_191 : decode cX10_map 191 = .ok (.iastore, 1) := by decide +kernel
theorem dX10_map_192 : decode cX10_map 192 = .ok (.iconst 0, 1) := by decide +kernel
theorem dX10_map_193 : decode cX10_map 193 = .ok (.istore 6, 2) := by decide +kernel
theorem dX10_map_195 : decode cX10_map 195 = .ok (.iload 6, 2) := by decide +kernel
theorem dX10_map_197 : decode cX10_map 197 = .ok (.aload_n 0, 1) := by decide +kernel
theorem dX10_map_198 : decode cX10_map 198 = .ok (.getfield 115, 3) := by decide +kernel
theorem dX10_map_201 : decode cX10_map 201 = .ok (.if_icmp .ge 34, 3) := by decide +kernel
theorem dX10_map_204 : decode cX10_map 204 = .ok (.aload_n 0, 1) := by decide +kernel
theorem dX10_map_205 : decode cX10_map 205 = .ok (.getfield 75, 3) := by decide +kernel
theorem dX10_map_208 : decode cX10_map 208 = .ok (.bipush 20, 2) := by decide +kernel
theorem dX10_map_210 : decode cX10_map 210 = .ok (.bipush 8, 2) := by decide +kernel
theorem dX10_map_212 : decode cX10_map 212 = .ok (.iload_n 1, 1) := by decide +kernel
theorem dX10_map_213 : decode cX10_map 213 = .ok (.imul, 1) := by decide +kernel
theorem dX10_map_214 : decode cX10_map 214 = .ok (.iload 5, 2) := by decide +kernel
theorem dX10_map_216 : decode cX10_map 216 = .ok (.iadd, 1) := by decide +kernel
theorem dX10_map_217 : decode cX10_map 217 = .ok (.imul, 1) := by decide +kernel
theorem dX10_map_218 : decode cX10_map 218 = .ok (.iload 6, 2) := by decide +kernel
theorem dX10_map_220 : decode cX10_map 220 = .ok (.iadd, 1) := by decide +kernel
theorem dX10_map_221 : decode cX10_map 221 = .ok (.aload_n 0, 1) := by decide +kernel
theorem dX10_map_222 : decode cX10_map 222 = .ok (.getfield 23, 3) := by decide +kernel
theorem dX10_map_225 : decode cX10_map 225 = .ok (.iload 6, 2) := by decide +kernel
theorem dX10_map_227 : decode cX10_map 227 = .ok (.iaload, 1) := by decide +kernel
theorem dX10_map_228 : decode cX10_map 228 = .ok (.iastore, 1) := by decide +kernel
theorem dX10_map_229 : decode cX10_map 229 = .ok (.iinc 6 1, 3) := by decide +kernel
theorem dX10_map_232 : decode cX10_map 232 = .ok (.goto (-37), 3) := by decide +kernel
theorem dX10_map_235 : decode cX10_map 235 = .ok (.iinc 5 1, 3) := by decide +kernel
theorem dX10_map_238 : decode cX10_map 238 = .ok (.goto (-79), 3) := by decide +kernel
theorem dX10_map_241 : decode cX10_map 241 = .ok (.aload_n 0, 1) := by decide +kernel
theorem dX10_map_242 : decode cX10_map 242 = .ok (.getfield 65, 3) := by decide +kernel
theorem dX10_map_245 : decode cX10_map 245 = .ok (.iload_n 1, 1) := by decide +kernel
theorem dX10_map_246 : decode cX10_map 246 = .ok (.iconst 1, 1) := by decide +kernel
theorem dX10_map_247 : decode cX10_map 247 = .ok (.bastore, 1) := by decide +kernel
theorem dX10_map_248 : decode cX10_map 248 = .ok (.aload_n 0, 1) := by decide +kernel
theorem dX10_map_249 : decode cX10_map 249 = .ok (.getfield 69, 3) := by decide +kernel
theorem dX10_map_252 : decode cX10_map 252 = .ok (.iload_n 1, 1) := by decide +kernel
theorem dX10_map_253 : decode cX10_map 253 = .ok (.iload_n 2, 1) := by decide +kernel
theorem dX10_map_254 : decode cX10_map 254 = .ok (.iastore, 1) := by decide +kernel
theorem dX10_map_255 : decode cX10_map 255 = .ok (.iconst 1, 1) := by decide +kernel
theorem dX10_map_256 : decode cX10_map 256 = .ok (.ireturn, 1) := by decide +kernel
theorem dX10_isMap_0 : decode cX10_isMap 0 = .ok (.aload_n 0, 1) := by decide +kernel
theorem dX10_isMap_1 : decode cX10_isMap 1 = .ok (.iload_n 1, 1) := by decide +kernel
theorem dX10_isMap_2 : decode cX10_isMap 2 = .ok (.ifCond .lt 22, 3) := by decide +kernel
theorem dX10_isMap_5 : decode cX10_isMap 5 = .ok (.iload_n 1, 1) := by decide +kernel
theorem dX10_isMap_6 : decode cX10_isMap 6 = .ok (.bipush 8, 2) := by decide +kernel
theorem dX10_isMap_8 : decode cX10_isMap 8 = .ok (.if_icmp .ge 16, 3) := by decide +kernel
theorem dX10_isMap_11 : decode cX10_isMap 11 = .ok (.aload_n 0, 1) := by decide +kernel
theorem dX10_isMap_12 : decode cX10_isMap 12 = .ok (.getfield 65, 3) := by decide +kernel
theorem dX10_isMap_15 : decode cX10_isMap 15 = .ok (.iload_n 1, 1) := by decide +kernel
theorem dX10_isMap_16 : decode cX10_isMap 16 = .ok (.baload, 1) := by decide +kernel
theorem dX10_isMap_17 : decode cX10_isMap 17 = .ok (.ifCond .eq 7, 3) := by decide +kernel
theorem dX10_isMap_20 : decode cX10_isMap 20 = .ok (.iconst 1, 1) := by decide +kernel
theorem dX10_isMap_21 : decode cX10_isMap 21 = .ok (.goto 4, 3) := by decide +kernel
theorem dX10_isMap_24 : decode cX10_isMap 24 = .ok (.iconst 0, 1) := by decide +kernel
theorem dX10_isMap_25 : decode cX10_isMap 25 = .ok (.iconst 1, 1) := by decide +kernel
theorem dX10_isMap_26 : decode cX10_isMap 26 = .ok (.invokevirtual 100, 3) := by decide +kernel
theorem dX10_isMap_29 : decode cX10_isMap 29 = .ok (.ireturn, 1) := by decide +kernel
theorem dX10_findImage_0 : decode cX10_findImage 0 = .ok (.aload_n 0, 1) := by decide +kernel
theorem dX10_findImage_1 : decode cX10_findImage 1 = .ok (.iconst 0, 1) := by decide +kernel
theorem dX10_findImage_2 : decode cX10_findImage 2 = .ok (.putfield 235, 3) := by decide +kernel
theorem dX10_findImage_5 : decode cX10_findImage 5 = .ok (.iconst 0, 1) := by decide +kernel
theorem dX10_findImage_6 : decode cX10_findImage 6 = .ok (.istore 4, 2) := by decide +kernel
theorem dX10_findImage_8 : decode cX10_findImage 8 = .ok (.iload 4, 2) := by decide +kernel
theorem dX10_findImage_10 : decode cX10_findImage 10 = .ok (.iload_n 3, 1) := by decide +kernel
theorem dX10_findImage_11 : decode cX10_findImage 11 = .ok (.if_icmp .ge 73, 3) := by decide +kernel
theorem dX10_findImage_14 : decode cX10_findImage 14 = .ok (.bipush 8, 2) := by decide +kernel
theorem dX10_findImage_16 : decode cX10_findImage 16 = .ok (.iload_n 1, 1) := by decide +kernel
theorem dX10_findImage_17 : decode cX10_findImage 17 = .ok (.imul, 1) := by decide +kernel
theorem dX10_findImage_18 : decode cX10_findImage 18 = .ok (.aload_n 2, 1) := by decide +kernel
theorem dX10_findImage_19 : decode cX10_findImage 19 = .ok (.iload 4, 2) := by decide +kernel
theorem dX10_findImage_21 : decode cX10_findImage 21 = .ok (.iaload, 1) := by decide +kernel
theorem dX10_findImage_22 : decode cX10_findImage 22 = .ok (.iadd, 1) := by decide +kernel
theorem dX10_findImage_23 : decode cX10_findImage 23 = .ok (.istore 5, 2) := by decide +kernel
theorem dX10_findImage_25 : decode cX10_findImage 25 = .ok (.iconst 0, 1) := by decide +kernel
theorem dX10_findImage_26 : decode cX10_findImage 26 = .ok (.istore 6, 2) := by decide +kernel
theorem dX10_findImage_28 : decode cX10_findImage 28 = .ok (.iload 6, 2) := by decide +kernel
theorem dX10_findImage_30 : decode cX10_findImage 30 = .ok (.aload_n 0, 1) := by decide +kernel
theorem dX10_findImage_31 : decode cX10_findImage 31 = .ok (.getfield 72, 3) := by decide +kernel
theorem dX10_findImage_34 : decode cX10_findImage 34 = .ok (.iload 5, 2) := by decide +kernel
theorem dX10_findImage_36 : decode cX10_findImage 36 = .ok (.iaload, 1) := by decide +kernel
theorem dX10_findImage_37 : decode cX10_findImage 37 = .ok (.if_icmp .ge 41, 3) := by decide +kernel
theorem dX10_findImage_40 : decode cX10_findImage 40 = .ok (.aload_n 0, 1) := by decide +kernel
theorem dX10_findImage_41 : decode cX10_findImage 41 = .ok (.getfield 78, 3) := by decide +kernel
theorem dX10_findImage_44 : decode cX10_findImage 44 = .ok (.aload_n 0, 1) := by decide +kernel
theorem dX10_findImage_45 : decode cX10_findImage 45 = .ok (.getfield 235, 3) := by decide +kernel
theorem dX10_findImage_48 : decode cX10_findImage 48 = .ok (.aload_n 0, 1) := by decide +kernel
theorem dX10_findImage_49 : decode cX10_findImage 49 = .ok (.getfield 75, 3) := by decide +kernel
theorem dX10_findImage_52 : decode cX10_findImage 52 = .ok (.bipush 20, 2) := by decide +kernel
theorem dX10_findImage_54 : decode cX10_findImage 54 = .ok (.iload 5, 2) := by decide +kernel
theorem dX10_findImage_56 : decode cX10_findImage 56 = .ok (.imul, 1) := by decide +kernel
theorem dX10_findImage_57 : decode cX10_findImage 57 = .ok (.iload 6, 2) := by decide +kernel
theorem dX10_findImage_59 : decode cX10_findImage 59 = .ok (.iadd, 1) := by decide +kernel
theorem dX10_findImage_60 : decode cX10_findImage 60 = .ok (.iaload, 1) := by decide +kernel
theorem dX10_findImage_61 : decode cX10_findImage 61 = .ok (.iastore, 1) := by decide +kernel
theorem dX10_findImage_62 : decode cX10_findImage 62 = .ok (.aload_n 0, 1) := by decide +kernel
theorem dX10_findImage_63 : decode cX10_findImage 63 = .ok (.dup, 1) := by decide +kernel
theorem dX10_findImage_64 : decode cX10_findImage 64 = .ok (.getfield 235, 3) := by decide +kernel
theorem dX10_findImage_67 : decode cX10_findImage 67 = .ok (.iconst 1, 1) := by decide +kernel
theorem dX10_findImage_68 : decode cX10_findImage 68 = .ok (.iadd, 1) := by decide +kernel
theorem dX10_findImage_69 : decode cX10_findImage 69 = .ok (.putfield 235, 3) := by decide +kernel
theorem dX10_findImage_72 : decode cX10_findImage 72 = .ok (.iinc 6 1, 3) := by decide +kernel
theorem dX10_findImage_75 : decode cX10_findImage 75 = .ok (.goto (-47), 3) := by decide +kernel
theorem dX10_findImage_78 : decode cX10_findImage 78 = .ok (.iinc 4 1, 3) := by decide +kernel
theorem dX10_findImage_81 : decode cX10_findImage 81 = .ok (.goto (-73), 3) := by decide +kernel
theorem dX10_findImage_84 : decode cX10_findImage 84 = .ok (.return_, 1) := by decide +kernel
theorem dX10_image_0 : decode cX10_image 0 = .ok (.aload_n 0, 1) := by decide +kernel
theorem dX10_image_1 : decode cX10_image 1 = .ok (.iconst 0, 1) := by decide +kernel
theorem dX10_image_2 : decode cX10_image 2 = .ok (.putfield 1, 3) := by decide +kernel
theorem dX10_image_5 : decode cX10_image 5 = .ok (.aload_n 0, 1) := by decide +kernel
theorem dX10_image_6 : decode cX10_image 6 = .ok (.iload_n 1, 1) := by decide +kernel
theorem dX10_image_7 : decode cX10_image 7 = .ok (.invokevirtual 238, 3) := by decide +kernel
theorem dX10_image_10 : decode cX10_image 10 = .ok (.ifCond .eq 27, 3) := by decide +kernel
theorem dX10_image_13 : decode cX10_image 13 = .ok (.aload_n 0, 1) := by decide +kernel
theorem dX10_image_14 : decode cX10_image 14 = .ok (.iload_n 2, 1) := by decide +kernel
theorem dX10_image_15 : decode cX10_image 15 = .ok (.iload_n 3, 1) := by decide +kernel
theorem dX10_image_16 : decode cX10_image 16 = .ok (.iconst 2, 1) := by decide +kernel
theorem dX10_image_17 : decode cX10_image 17 = .ok (.invokevirtual 111, 3) := by decide +kernel
theorem dX10_image_20 : decode cX10_image 20 = .ok (.ifCond .eq 17, 3) := by decide +kernel
theorem dX10_image_23 : decode cX10_image 23 = .ok (.aload_n 0, 1) := by decide +kernel
theorem dX10_image_24 : decode cX10_image 24 = .ok (.aload_n 0, 1) := by decide +kernel
theorem dX10_image_25 : decode cX10_image 25 = .ok (.iload 4, 2) := by decide +kernel
theorem dX10_image_27 : decode cX10_image 27 = .ok (.invokevirtual 107, 3) := by decide +kernel
theorem dX10_image_30 : decode cX10_image 30 = .ok (.iconst 2, 1) := by decide +kernel
theorem dX10_image_31 : decode cX10_image 31 = .ok (.invokevirtual 100, 3) := by decide +kernel
theorem dX10_image_34 : decode cX10_image 34 = .ok (.ifCond .ne 5, 3) := by decide +kernel
theorem dX10_image_37 : decode cX10_image 37 = .ok (.iconst 0, 1) := by decide +kernel
theorem dX10_image_38 : decode cX10_image 38 = .ok (.ireturn, 1) := by decide +kernel
theorem dX10_image_39 : decode cX10_image 39 = .ok (.aload_n 0, 1) := by decide +kernel
theorem dX10_image_40 : decode cX10_image 40 = .ok (.iload_n 2, 1) := by decide +kernel
theorem dX10_image_41 : decode cX10_image 41 = .ok (.iload_n 3, 1) := by decide +kernel
theorem dX10_image_42 : decode cX10_image 42 = .ok (.invokevirtual 118, 3) := by decide +kernel
theorem dX10_image_45 : decode cX10_image 45 = .ok (.ifCond .ne 5, 3) := by decide +kernel
theorem dX10_image_48 : decode cX10_image 48 = .ok (.iconst (-1), 1) := by decide +kernel
theorem dX10_image_49 : decode cX10_image 49 = .ok (.ireturn, 1) := by decide +kernel
theorem dX10_image_50 : decode cX10_image 50 = .ok (.iconst 0, 1) := by decide +kernel
theorem dX10_image_51 : decode cX10_image 51 = .ok (.istore 5, 2) := by decide +kernel
theorem dX10_image_53 : decode cX10_image 53 = .ok (.iload 5, 2) := by decide +kernel
theorem dX10_image_55 : decode cX10_image 55 = .ok (.aload_n 0, 1) := by decide +kernel
theorem dX10_image_56 : decode cX10_image 56 = .ok (.getfield 115, 3) := by decide +kernel
theorem dX10_image_59 : decode cX10_image 59 = .ok (.if_icmp .ge 27, 3) := by decide +kernel
theorem dX10_image_62 : decode cX10_image 62 = .ok (.aload_n 0, 1) := by decide +kernel
theorem dX10_image_63 : decode cX10_image 63 = .ok (.getfield 23, 3) := by decide +kernel
theorem dX10_image_66 : decode cX10_image 66 = .ok (.iload 5, 2) := by decide +kernel
theorem dX10_image_68 : decode cX10_image 68 = .ok (.iaload, 1) := by decide +kernel
theorem dX10_image_69 : decode cX10_image 69 = .ok (.aload_n 0, 1) := by decide +kernel
theorem dX10_image_70 : decode cX10_image 70 = .ok (.getfield 69, 3) := by decide +kernel
theorem dX10_image_73 : decode cX10_image 73 = .ok (.iload_n 1, 1) := by decide +kernel
theorem dX10_image_74 : decode cX10_image 74 = .ok (.iaload, 1) := by decide +kernel
theorem dX10_image_75 : decode cX10_image 75 = .ok (.if_icmp .lt 5, 3) := by decide +kernel
theorem dX10_image_78 : decode cX10_image 78 = .ok (.iconst (-1), 1) := by decide +kernel
theorem dX10_image_79 : decode cX10_image 79 = .ok (.ireturn, 1) := by decide +kernel
theorem dX10_image_80 : decode cX10_image 80 = .ok (.iinc 5 1, 3) := by decide +kernel
theorem dX10_image_83 : decode cX10_image 83 = .ok (.goto (-30), 3) := by decide +kernel
theorem dX10_image_86 : decode cX10_image 86 = .ok (.aload_n 0, 1) := by decide +kernel
theorem dX10_image_87 : decode cX10_image 87 = .ok (.iload_n 1, 1) := by decide +kernel
theorem dX10_image_88 : decode cX10_image 88 = .ok (.aload_n 0, 1) := by decide +kernel
theorem dX10_image_89 : decode cX10_image 89 = .ok (.getfield 23, 3) := by decide +kernel
theorem dX10_image_92 : decode cX10_image 92 = .ok (.aload_n 0, 1) := by decide +kernel
theorem dX10_image_93 : decode cX10_image 93 = .ok (.getfield 115, 3) := by decide +kernel
theorem dX10_image_96 : decode cX10_image 96 = .ok (.invokevirtual 241, 3) := by decide +kernel
theorem dX10_image_99 : decode cX10_image 99 = .ok (.aload_n 0, 1) := by decide +kernel
theorem dX10_image_100 : decode cX10_image 100 = .ok (.getfield 235, 3) := by decide +kernel
theorem dX10_image_103 : decode cX10_image 103 = .ok (.bipush 60, 2) := by decide +kernel
theorem dX10_image_105 : decode cX10_image 105 = .ok (.if_icmp .le 6, 3) := by decide +kernel
theorem dX10_image_108 : decode cX10_image 108 = .ok (.bipush (-2), 2) := by decide +kernel
theorem dX10_image_110 : decode cX10_image 110 = .ok (.ireturn, 1) := by decide +kernel
theorem dX10_image_111 : decode cX10_image 111 = .ok (.aload_n 0, 1) := by decide +kernel
theorem dX10_image_112 : decode cX10_image 112 = .ok (.iload 4, 2) := by decide +kernel
theorem dX10_image_114 : decode cX10_image 114 = .ok (.aload_n 0, 1) := by decide +kernel
theorem dX10_image_115 : decode cX10_image 115 = .ok (.getfield 78, 3) := by decide +kernel
theorem dX10_image_118 : decode cX10_image 118 = .ok (.aload_n 0, 1) := by decide +kernel
theorem dX10_image_119 : decode cX10_image 119 = .ok (.getfield 235, 3) := by decide +kernel
theorem dX10_image_122 : decode cX10_image 122 = .ok (.invokevirtual 232, 3) := by decide +kernel
theorem dX10_image_125 : decode cX10_image 125 = .ok (.aload_n 0, 1) := by decide +kernel
theorem dX10_image_126 : decode cX10_image 126 = .ok (.getfield 235, 3) := by decide +kernel
theorem dX10_image_129 : decode cX10_image 129 = .ok (.ireturn, 1) := by decide +kernel
theorem dX10_hasSquare_0 : decode cX10_hasSquare 0 = .ok (.iconst 2, 1) := by decide +kernel
theorem dX10_hasSquare_1 : decode cX10_hasSquare 1 = .ok (.istore_n 1, 1) := by decide +kernel
theorem dX10_hasSquare_2 : decode cX10_hasSquare 2 = .ok (.iload_n 1, 1) := by decide +kernel
theorem dX10_hasSquare_3 : decode cX10_hasSquare 3 = .ok (.aload_n 0, 1) := by decide +kernel
theorem dX10_hasSquare_4 : decode cX10_hasSquare 4 = .ok (.getfield 235, 3) := by decide +kernel
theorem dX10_hasSquare_7 : decode cX10_hasSquare 7 = .ok (.if_icmp .gt 43, 3) := by decide +kernel
theorem dX10_hasSquare_10 : decode cX10_hasSquare 10 = .ok (.iconst 1, 1) := by decide +kernel
theorem dX10_hasSquare_11 : decode cX10_hasSquare 11 = .ok (.istore_n 2, 1) := by decide +kernel
theorem dX10_hasSquare_12 : decode cX10_hasSquare 12 = .ok (.iconst 2, 1) := by decide +kernel
theorem dX10_hasSquare_13 : decode cX10_hasSquare 13 = .ok (.iload_n 2, 1) := by decide +kernel
theorem dX10_hasSquare_14 : decode cX10_hasSquare 14 = .ok (.imul, 1) := by decide +kernel
theorem dX10_hasSquare_15 : decode cX10_hasSquare 15 = .ok (.iload_n 1, 1) := by decide +kernel
theorem dX10_hasSquare_16 : decode cX10_hasSquare 16 = .ok (.if_icmp .gt 28, 3) := by decide +kernel
theorem dX10_hasSquare_19 : decode cX10_hasSquare 19 = .ok (.aload_n 0, 1) := by decide +kernel
theorem dX10_hasSquare_20 : decode cX10_hasSquare 20 = .ok (.getfield 78, 3) := by decide +kernel
theorem dX10_hasSquare_23 : decode cX10_hasSquare 23 = .ok (.iload_n 1, 1) := by decide +kernel
theorem dX10_hasSquare_24 : decode cX10_hasSquare 24 = .ok (.iconst 2, 1) := by decide +kernel
theorem dX10_hasSquare_25 : decode cX10_hasSquare 25 = .ok (.iload_n 2, 1) := by decide +kernel
theorem dX10_hasSquare_26 : decode cX10_hasSquare 26 = .ok (.imul, 1) := by decide +kernel
theorem dX10_hasSquare_27 : decode cX10_hasSquare 27 = .ok (.isub, 1) := by decide +kernel
theorem dX10_hasSquare_28 : decode cX10_hasSquare 28 = .ok (.iload_n 1, 1) := by decide +kernel
theorem dX10_hasSquare_29 : decode cX10_hasSquare 29 = .ok (.iload_n 2, 1) := by decide +kernel
theorem dX10_hasSquare_30 : decode cX10_hasSquare 30 = .ok (.invokestatic 128, 3) := by decide +kernel
theorem dX10_hasSquare_33 : decode cX10_hasSquare 33 = .ok (.ifCond .eq 5, 3) := by decide +kernel
theorem dX10_hasSquare_36 : decode cX10_hasSquare 36 = .ok (.iconst 1, 1) := by decide +kernel
theorem dX10_hasSquare_37 : decode cX10_hasSquare 37 = .ok (.ireturn, 1) := by decide +kernel
theorem dX10_hasSquare_38 : decode cX10_hasSquare 38 = .ok (.iinc 2 1, 3) := by decide +kernel
theorem dX10_hasSquare_41 : decode cX10_hasSquare 41 = .ok (.goto (-29), 3) := by decide +kernel
theorem dX10_hasSquare_44 : decode cX10_hasSquare 44 = .ok (.iinc 1 1, 3) := by decide +kernel
theorem dX10_hasSquare_47 : decode cX10_hasSquare 47 = .ok (.goto (-45), 3) := by decide +kernel
theorem dX10_hasSquare_50 : decode cX10_hasSquare 50 = .ok (.iconst 0, 1) := by decide +kernel
theorem dX10_hasSquare_51 : decode cX10_hasSquare 51 = .ok (.ireturn, 1) := by decide +kernel
theorem dX10_keeps_0 : decode cX10_keeps 0 = .ok (.aload_n 0, 1) := by decide +kernel
theorem dX10_keeps_1 : decode cX10_keeps 1 = .ok (.iconst 0, 1) := by decide +kernel
theorem dX10_keeps_2 : decode cX10_keeps 2 = .ok (.putfield 1, 3) := by decide +kernel
theorem dX10_keeps_5 : decode cX10_keeps 5 = .ok (.aload_n 0, 1) := by decide +kernel
theorem dX10_keeps_6 : decode cX10_keeps 6 = .ok (.iload_n 1, 1) := by decide +kernel
theorem dX10_keeps_7 : decode cX10_keeps 7 = .ok (.invokevirtual 238, 3) := by decide +kernel
theorem dX10_keeps_10 : decode cX10_keeps 10 = .ok (.ifCond .eq 16, 3) := by decide +kernel
theorem dX10_keeps_13 : decode cX10_keeps 13 = .ok (.aload_n 0, 1) := by decide +kernel
theorem dX10_keeps_14 : decode cX10_keeps 14 = .ok (.aload_n 0, 1) := by decide +kernel
theorem dX10_keeps_15 : decode cX10_keeps 15 = .ok (.iload_n 2, 1) := by decide +kernel
theorem dX10_keeps_16 : decode cX10_keeps 16 = .ok (.invokevirtual 107, 3) := by decide +kernel
theorem dX10_keeps_19 : decode cX10_keeps 19 = .ok (.iconst 2, 1) := by decide +kernel
theorem dX10_keeps_20 : decode cX10_keeps 20 = .ok (.invokevirtual 100, 3) := by decide +kernel
theorem dX10_keeps_23 : decode cX10_keeps 23 = .ok (.ifCond .ne 5, 3) := by decide +kernel
theorem dX10_keeps_26 : decode cX10_keeps 26 = .ok (.iconst 0, 1) := by decide +kernel
theorem dX10_keeps_27 : decode cX10_keeps 27 = .ok (.ireturn, 1) := by decide +kernel
theorem dX10_keeps_28 : decode cX10_keeps 28 = .ok (.iconst 0, 1) := by decide +kernel
theorem dX10_keeps_29 : decode cX10_keeps 29 = .ok (.istore_n 3, 1) := by decide +kernel
theorem dX10_keeps_30 : decode cX10_keeps 30 = .ok (.bipush 20, 2) := by decide +kernel
theorem dX10_keeps_32 : decode cX10_keeps 32 = .ok (.istore 4, 2) := by decide +kernel
theorem dX10_keeps_34 : decode cX10_keeps 34 = .ok (.iconst 0, 1) := by decide +kernel
theorem dX10_keeps_35 : decode cX10_keeps 35 = .ok (.istore 5, 2) := by decide +kernel
theorem dX10_keeps_37 : decode cX10_keeps 37 = .ok (.iload 5, 2) := by decide +kernel
theorem dX10_keeps_39 : decode cX10_keeps 39 = .ok (.aload_n 0, 1) := by decide +kernel
theorem dX10_keeps_40 : decode cX10_keeps 40 = .ok (.getfield 69, 3) := by decide +kernel
theorem dX10_keeps_43 : decode cX10_keeps 43 = .ok (.iload_n 1, 1) := by decide +kernel
theorem dX10_keeps_44 : decode cX10_keeps 44 = .ok (.iaload, 1) := by decide +kernel
theorem dX10_keeps_45 : decode cX10_keeps 45 = .ok (.if_icmp .ge 52, 3) := by decide +kernel
theorem dX10_keeps_48 : decode cX10_keeps 48 = .ok (.aload_n 0, 1) := by decide +kernel
theorem dX10_keeps_49 : decode cX10_keeps 49 = .ok (.getfield 72, 3) := by decide +kernel
theorem dX10_keeps_52 : decode cX10_keeps 52 = .ok (.bipush 8, 2) := by decide +kernel
theorem dX10_keeps_54 : decode cX10_keeps 54 = .ok (.iload_n 1, 1) := by decide +kernel
theorem dX10_keeps_55 : decode cX10_keeps 55 = .ok (.imul, 1) := by decide +kernel
theorem dX10_keeps_56 : decode cX10_keeps 56 = .ok (.iload 5, 2) := by decide +kernel
theorem dX10_keeps_58 : decode cX10_keeps 58 = .ok (.iadd, 1) := by decide +kernel
theorem dX10_keeps_59 : decode cX10_keeps 59 = .ok (.iaload, 1) := by decide +kernel
theorem dX10_keeps_60 : decode cX10_keeps 60 = .ok (.istore 6, 2) := by decide +kernel
theorem dX10_keeps_62 : decode cX10_keeps 62 = .ok (.iload 6, 2) := by decide +kernel
theorem dX10_keeps_64 : decode cX10_keeps 64 = .ok (.iload_n 3, 1) := by decide +kernel
theorem dX10_keeps_65 : decode cX10_keeps 65 = .ok (.if_icmp .le 8, 3) := by decide +kernel
theorem dX10_keeps_68 : decode cX10_keeps 68 = .ok (.iload 6, 2) := by decide +kernel
theorem dX10_keeps_70 : decode cX10_keeps 70 = .ok (.goto 4, 3) := by decide +kernel
theorem dX10_keeps_73 : decode cX10_keeps 73 = .ok (.iload_n 3, 1) := by decide +kernel
theorem dX10_keeps_74 : decode cX10_keeps 74 = .ok (.istore_n 3, 1) := by decide +kernel
theorem dX10_keeps_75 : decode cX10_keeps 75 = .ok (.iload 6, 2) := by decide +kernel
theorem dX10_keeps_77 : decode cX10_keeps 77 = .ok (.iload 4, 2) := by decide +kernel
theorem dX10_keeps_79 : decode cX10_keeps 79 = .ok (.if_icmp .ge 8, 3) := by decide +kernel
theorem dX10_keeps_82 : decode cX10_keeps 82 = .ok (.iload 6, 2) := by decide +kernel
theorem dX10_keeps_84 : decode cX10_keeps 84 = .ok (.goto 5, 3) := by decide +kernel
theorem dX10_keeps_87 : decode cX10_keeps 87 = .ok (.iload 4, 2) := by decide +kernel
theorem dX10_keeps_89 : decode cX10_keeps 89 = .ok (.istore 4, 2) := by decide +kernel
theorem dX10_keeps_91 : decode cX10_keeps 91 = .ok (.iinc 5 1, 3) := by decide +kernel
theorem dX10_keeps_94 : decode cX10_keeps 94 = .ok (.goto (-57), 3) := by decide +kernel
theorem dX10_keeps_97 : decode cX10_keeps 97 = .ok (.iload_n 3, 1) := by decide +kernel
theorem dX10_keeps_98 : decode cX10_keeps 98 = .ok (.iconst 3, 1) := by decide +kernel
theorem dX10_keeps_99 : decode cX10_keeps 99 = .ok (.if_icmp .le 19, 3) := by decide +kernel
theorem dX10_keeps_102 : decode cX10_keeps 102 = .ok (.iconst 1, 1) := by decide +kernel
theorem dX10_keeps_103 : decode cX10_keeps 103 = .ok (.iload_n 3, 1) := by decide +kernel
theorem dX10_keeps_104 : decode cX10_keeps 104 = .ok (.iconst 3, 1) := by decide +kernel
theorem dX10_keeps_105 : decode cX10_keeps 105 = .ok (.isub, 1) := by decide +kernel
theorem dX10_keeps_106 : decode cX10_keeps 106 = .ok (.iload 4, 2) := by decide +kernel
theorem dX10_keeps_108 : decode cX10_keeps 108 = .ok (.iadd, 1) := by decide +kernel
theorem dX10_keeps_109 : decode cX10_keeps 109 = .ok (.iconst 1, 1) := by decide +kernel
theorem dX10_keeps_110 : decode cX10_keeps 110 = .ok (.isub, 1) := by decide +kernel
theorem dX10_keeps_111 : decode cX10_keeps 111 = .ok (.iload 4, 2) := by decide +kernel
theorem dX10_keeps_113 : decode cX10_keeps 113 = .ok (.idiv, 1) := by decide +kernel
theorem dX10_keeps_114 : decode cX10_keeps 114 = .ok (.iadd, 1) := by decide +kernel
theorem dX10_keeps_115 : decode cX10_keeps 115 = .ok (.goto 4, 3) := by decide +kernel
theorem dX10_keeps_118 : decode cX10_keeps 118 = .ok (.iconst 1, 1) := by decide +kernel
theorem dX10_keeps_119 : decode cX10_keeps 119 = .ok (.istore 5, 2) := by decide +kernel
theorem dX10_keeps_121 : decode cX10_keeps 121 = .ok (.iload 5, 2) := by decide +kernel
theorem dX10_keeps_123 : decode cX10_keeps 123 = .ok (.iconst 3, 1) := by decide +kernel
theorem dX10_keeps_124 : decode cX10_keeps 124 = .ok (.if_icmp .ge 7, 3) := by decide +kernel
theorem dX10_keeps_127 : decode cX10_keeps 127 = .ok (.iconst 3, 1) := by decide +kernel
theorem dX10_keeps_128 : decode cX10_keeps 128 = .ok (.goto 5, 3) := by decide +kernel
theorem dX10_keeps_131 : decode cX10_keeps 131 = .ok (.iload 5, 2) := by decide +kernel
theorem dX10_keeps_133 : decode cX10_keeps 133 = .ok (.istore 5, 2) := by decide +kernel
theorem dX10_keeps_135 : decode cX10_keeps 135 = .ok (.aload_n 0, 1) := by decide +kernel
theorem dX10_keeps_136 : decode cX10_keeps 136 = .ok (.iconst 0, 1) := by decide +kernel
theorem dX10_keeps_137 : decode cX10_keeps 137 = .ok (.putfield 125, 3) := by decide +kernel
theorem dX10_keeps_140 : decode cX10_keeps 140 = .ok (.aload_n 0, 1) := by decide +kernel
theorem dX10_keeps_141 : decode cX10_keeps 141 = .ok (.iconst 1, 1) := by decide +kernel
theorem dX10_keeps_142 : decode cX10_keeps 142 = .ok (.putfield 195, 3) := by decide +kernel
theorem dX10_keeps_145 : decode cX10_keeps 145 = .ok (.iconst 1, 1) := by decide +kernel
theorem dX10_keeps_146 : decode cX10_keeps 146 = .ok (.istore 6, 2) := by decide +kernel
theorem dX10_keeps_148 : decode cX10_keeps 148 = .ok (.iload 6, 2) := by decide +kernel
theorem dX10_keeps_150 : decode cX10_keeps 150 = .ok (.iload 5, 2) := by decide +kernel
theorem dX10_keeps_152 : decode cX10_keeps 152 = .ok (.if_icmp .gt 73, 3) := by decide +kernel
theorem dX10_keeps_155 : decode cX10_keeps 155 = .ok (.aload_n 0, 1) := by decide +kernel
theorem dX10_keeps_156 : decode cX10_keeps 156 = .ok (.iconst 0, 1) := by decide +kernel
theorem dX10_keeps_157 : decode cX10_keeps 157 = .ok (.aload_n 0, 1) := by decide +kernel
theorem dX10_keeps_158 : decode cX10_keeps 158 = .ok (.getfield 69, 3) := by decide +kernel
theorem dX10_keeps_161 : decode cX10_keeps 161 = .ok (.iload_n 1, 1) := by decide +kernel
theorem dX10_keeps_162 : decode cX10_keeps 162 = .ok (.iaload, 1) := by decide +kernel
theorem dX10_keeps_163 : decode cX10_keeps 163 = .ok (.iload 6, 2) := by decide +kernel
theorem dX10_keeps_165 : decode cX10_keeps 165 = .ok (.invokevirtual 225, 3) := by decide +kernel
theorem dX10_keeps_168 : decode cX10_keeps 168 = .ok (.aload_n 0, 1) := by decide +kernel
theorem dX10_keeps_169 : decode cX10_keeps 169 = .ok (.invokevirtual 229, 3) := by decide +kernel
theorem dX10_keeps_172 : decode cX10_keeps 172 = .ok (.ifCond .eq 37, 3) := by decide +kernel
theorem dX10_keeps_175 : decode cX10_keeps 175 = .ok (.aload_n 0, 1) := by decide +kernel
theorem dX10_keeps_176 : decode cX10_keeps 176 = .ok (.iload_n 1, 1) := by decide +kernel
theorem dX10_keeps_177 : decode cX10_keeps 177 = .ok (.aload_n 0, 1) := by decide +kernel
theorem dX10_keeps_178 : decode cX10_keeps 178 = .ok (.getfield 59, 3) := by decide +kernel
theorem dX10_keeps_181 : decode cX10_keeps 181 = .ok (.iload 6, 2) := by decide +kernel
theorem dX10_keeps_183 : decode cX10_keeps 183 = .ok (.invokevirtual 241, 3) := by decide +kernel
theorem dX10_keeps_186 : decode cX10_keeps 186 = .ok (.aload_n 0, 1) := by decide +kernel
theorem dX10_keeps_187 : decode cX10_keeps 187 = .ok (.invokevirtual 244, 3) := by decide +kernel
theorem dX10_keeps_190 : decode cX10_keeps 190 = .ok (.ifCond .ne 6, 3) := by decide +kernel
theorem dX10_keeps_193 : decode cX10_keeps 193 = .ok (.goto (-25), 3) := by decide +kernel
theorem dX10_keeps_196 : decode cX10_keeps 196 = .ok (.aload_n 0, 1) := by decide +kernel
theorem dX10_keeps_197 : decode cX10_keeps 197 = .ok (.iload_n 2, 1) := by decide +kernel
theorem dX10_keeps_198 : decode cX10_keeps 198 = .ok (.aload_n 0, 1) := by decide +kernel
theorem dX10_keeps_199 : decode cX10_keeps 199 = .ok (.getfield 59, 3) := by decide +kernel
theorem dX10_keeps_202 : decode cX10_keeps 202 = .ok (.iload 6, 2) := by decide +kernel
theorem dX10_keeps_204 : decode cX10_keeps 204 = .ok (.invokevirtual 232, 3) := by decide +kernel
theorem dX10_keeps_207 : decode cX10_keeps 207 = .ok (.iconst 0, 1) := by decide +kernel
theorem dX10_keeps_208 : decode cX10_keeps 208 = .ok (.ireturn, 1) := by decide +kernel
theorem dX10_keeps_209 : decode cX10_keeps 209 = .ok (.aload_n 0, 1) := by decide +kernel
theorem dX10_keeps_210 : decode cX10_keeps 210 = .ok (.getfield 208, 3) := by decide +kernel
theorem dX10_keeps_213 : decode cX10_keeps 213 = .ok (.ifCond .eq 6, 3) := by decide +kernel
theorem dX10_keeps_216 : decode cX10_keeps 216 = .ok (.bipush (-2), 2) := by decide +kernel
theorem dX10_keeps_218 : decode cX10_keeps 218 = .ok (.ireturn, 1) := by decide +kernel
theorem dX10_keeps_219 : decode cX10_keeps 219 = .ok (.iinc 6 1, 3) := by decide +kernel
theorem dX10_keeps_222 : decode cX10_keeps 222 = .ok (.goto (-74), 3) := by decide +kernel
theorem dX10_keeps_225 : decode cX10_keeps 225 = .ok (.iconst 1, 1) := by decide +kernel
theorem dX10_keeps_226 : decode cX10_keeps 226 = .ok (.ireturn, 1) := by decide +kernel
theorem dX10_at_0 : decode cX10_at 0 = .ok (.aload_n 0, 1) := by decide +kernel
theorem dX10_at_1 : decode cX10_at 1 = .ok (.iconst 0, 1) := by decide +kernel
theorem dX10_at_2 : decode cX10_at 2 = .ok (.putfield 1, 3) := by decide +kernel
theorem dX10_at_5 : decode cX10_at 5 = .ok (.aload_n 0, 1) := by decide +kernel
theorem dX10_at_6 : decode cX10_at 6 = .ok (.iload_n 1, 1) := by decide +kernel
theorem dX10_at_7 : decode cX10_at 7 = .ok (.invokevirtual 238, 3) := by decide +kernel
theorem dX10_at_10 : decode cX10_at 10 = .ok (.ifCond .ne 5, 3) := by decide +kernel
theorem dX10_at_13 : decode cX10_at 13 = .ok (.iconst 0, 1) := by decide +kernel
theorem dX10_at_14 : decode cX10_at 14 = .ok (.ireturn, 1) := by decide +kernel
theorem dX10_at_15 : decode cX10_at 15 = .ok (.aload_n 0, 1) := by decide +kernel
theorem dX10_at_16 : decode cX10_at 16 = .ok (.getfield 69, 3) := by decide +kernel
theorem dX10_at_19 : decode cX10_at 19 = .ok (.iload_n 1, 1) := by decide +kernel
theorem dX10_at_20 : decode cX10_at 20 = .ok (.iaload, 1) := by decide +kernel
theorem dX10_at_21 : decode cX10_at 21 = .ok (.istore 4, 2) := by decide +kernel
theorem dX10_at_23 : decode cX10_at 23 = .ok (.iload_n 2, 1) := by decide +kernel
theorem dX10_at_24 : decode cX10_at 24 = .ok (.ifCond .lt 31, 3) := by decide +kernel
theorem dX10_at_27 : decode cX10_at 27 = .ok (.iload_n 2, 1) := by decide +kernel
theorem dX10_at_28 : decode cX10_at 28 = .ok (.iload 4, 2) := by decide +kernel
theorem dX10_at_30 : decode cX10_at 30 = .ok (.if_icmp .ge 25, 3) := by decide +kernel
theorem dX10_at_33 : decode cX10_at 33 = .ok (.iload_n 3, 1) := by decide +kernel
theorem dX10_at_34 : decode cX10_at 34 = .ok (.ifCond .lt 21, 3) := by decide +kernel
theorem dX10_at_37 : decode cX10_at 37 = .ok (.aload_n 0, 1) := by decide +kernel
theorem dX10_at_38 : decode cX10_at 38 = .ok (.getfield 75, 3) := by decide +kernel
theorem dX10_at_41 : decode cX10_at 41 = .ok (.bipush 20, 2) := by decide +kernel
theorem dX10_at_43 : decode cX10_at 43 = .ok (.bipush 8, 2) := by decide +kernel
theorem dX10_at_45 : decode cX10_at 45 = .ok (.iload_n 1, 1) := by decide +kernel
theorem dX10_at_46 : decode cX10_at 46 = .ok (.imul, 1) := by decide +kernel
theorem dX10_at_47 : decode cX10_at 47 = .ok (.iload_n 2, 1) := by decide +kernel
theorem dX10_at_48 : decode cX10_at 48 = .ok (.iadd, 1) := by decide +kernel
theorem dX10_at_49 : decode cX10_at 49 = .ok (.imul, 1) := by decide +kernel
theorem dX10_at_50 : decode cX10_at 50 = .ok (.iaload, 1) := by decide +kernel
theorem dX10_at_51 : decode cX10_at 51 = .ok (.iload_n 2, 1) := by decide +kernel
theorem dX10_at_52 : decode cX10_at 52 = .ok (.if_icmp .eq 5, 3) := by decide +kernel
theorem dX10_at_55 : decode cX10_at 55 = .ok (.iconst (-1), 1) := by decide +kernel
theorem dX10_at_56 : decode cX10_at 56 = .ok (.ireturn, 1) := by decide +kernel
theorem dX10_at_57 : decode cX10_at 57 = .ok (.iconst 0, 1) := by decide +kernel
theorem dX10_at_58 : decode cX10_at 58 = .ok (.istore 5, 2) := by decide +kernel
theorem dX10_at_60 : decode cX10_at 60 = .ok (.iload 5, 2) := by decide +kernel
theorem dX10_at_62 : decode cX10_at 62 = .ok (.iload 4, 2) := by decide +kernel
theorem dX10_at_64 : decode cX10_at 64 = .ok (.if_icmp .ge 27, 3) := by decide +kernel
theorem dX10_at_67 : decode cX10_at 67 = .ok (.aload_n 0, 1) := by decide +kernel
theorem dX10_at_68 : decode cX10_at 68 = .ok (.getfield 72, 3) := by decide +kernel
theorem dX10_at_71 : decode cX10_at 71 = .ok (.bipush 8, 2) := by decide +kernel
theorem dX10_at_73 : decode cX10_at 73 = .ok (.iload_n 1, 1) := by decide +kernel
theorem dX10_at_74 : decode cX10_at 74 = .ok (.imul, 1) := by decide +kernel
theorem dX10_at_75 : decode cX10_at 75 = .ok (.iload 5, 2) := by decide +kernel
theorem dX10_at_77 : decode cX10_at 77 = .ok (.iadd, 1) := by decide +kernel
theorem dX10_at_78 : decode cX10_at 78 = .ok (.iaload, 1) := by decide +kernel
theorem dX10_at_79 : decode cX10_at 79 = .ok (.iconst 2, 1) := by decide +kernel
theorem dX10_at_80 : decode cX10_at 80 = .ok (.if_icmp .ge 5, 3) := by decide +kernel
theorem dX10_at_83 : decode cX10_at 83 = .ok (.iconst (-1), 1) := by decide +kernel
theorem dX10_at_84 : decode cX10_at 84 = .ok (.ireturn, 1) := by decide +kernel
theorem dX10_at_85 : decode cX10_at 85 = .ok (.iinc 5 1, 3) := by decide +kernel
theorem dX10_at_88 : decode cX10_at 88 = .ok (.goto (-28), 3) := by decide +kernel
theorem dX10_at_91 : decode cX10_at 91 = .ok (.iconst 0, 1) := by decide +kernel
theorem dX10_at_92 : decode cX10_at 92 = .ok (.istore 5, 2) := by decide +kernel
theorem dX10_at_94 : decode cX10_at 94 = .ok (.iload 5, 2) := by decide +kernel
theorem dX10_at_96 : decode cX10_at 96 = .ok (.iload 4, 2) := by decide +kernel
theorem dX10_at_98 : decode cX10_at 98 = .ok (.if_icmp .ge 17, 3) := by decide +kernel
theorem dX10_at_101 : decode cX10_at 101 = .ok (.aload_n 0, 1) := by decide +kernel
theorem dX10_at_102 : decode cX10_at 102 = .ok (.getfield 81, 3) := by decide +kernel
theorem dX10_at_105 : decode cX10_at 105 = .ok (.iload 5, 2) := by decide +kernel
theorem dX10_at_107 : decode cX10_at 107 = .ok (.lconst 1, 1) := by decide +kernel
theorem dX10_at_108 : decode cX10_at 108 = .ok (.lastore, 1) := by decide +kernel
theorem dX10_at_109 : decode cX10_at 109 = .ok (.iinc 5 1, 3) := by decide +kernel
theorem dX10_at_112 : decode cX10_at 112 = .ok (.goto (-18), 3) := by decide +kernel
theorem dX10_at_115 : decode cX10_at 115 = .ok (.iconst 0, 1) := by decide +kernel
theorem dX10_at_116 : decode cX10_at 116 = .ok (.istore 5, 2) := by decide +kernel
theorem dX10_at_118 : decode cX10_at 118 = .ok (.aload_n 0, 1) := by decide +kernel
theorem dX10_at_119 : decode cX10_at 119 = .ok (.getfield 81, 3) := by decide +kernel
theorem dX10_at_122 : decode cX10_at 122 = .ok (.bipush 8, 2) := by decide +kernel
theorem dX10_at_124 : decode cX10_at 124 = .ok (.iload 5, 2) := by decide +kernel
theorem dX10_at_126 : decode cX10_at 126 = .ok (.imul, 1) := by decide +kernel
theorem dX10_at_127 : decode cX10_at 127 = .ok (.iload_n 2, 1) := by decide +kernel
theorem dX10_at_128 : decode cX10_at 128 = .ok (.iadd, 1) := by decide +kernel
theorem dX10_at_129 : decode cX10_at 129 = .ok (.laload, 1) := by decide +kernel
theorem dX10_at_130 : decode cX10_at 130 = .ok (.iload_n 3, 1) := by decide +kernel
theorem dX10_at_131 : decode cX10_at 131 = .ok (.i2l, 1) := by decide +kernel
theorem dX10_at_132 : decode cX10_at 132 = .ok (.lcmp, 1) := by decide +kernel
theorem dX10_at_133 : decode cX10_at 133 = .ok (.ifCond .gt 106, 3) := by decide +kernel
theorem dX10_at_136 : decode cX10_at 136 = .ok (.iconst 0, 1) := by decide +kernel
theorem dX10_at_137 : decode cX10_at 137 = .ok (.istore 6, 2) := by decide +kernel
theorem dX10_at_139 : decode cX10_at 139 = .ok (.iload 6, 2) := by decide +kernel
theorem dX10_at_141 : decode cX10_at 141 = .ok (.iload 4, 2) := by decide +kernel
theorem dX10_at_143 : decode cX10_at 143 = .ok (.if_icmp .ge 90, 3) := by decide +kernel
theorem dX10_at_146 : decode cX10_at 146 = .ok (.lconst 0, 1) := by decide +kernel
theorem dX10_at_147 : decode cX10_at 147 = .ok (.lstore 7, 2) := by decide +kernel
theorem dX10_at_149 : decode cX10_at 149 = .ok (.iconst 0, 1) := by decide +kernel
theorem dX10_at_150 : decode cX10_at 150 = .ok (.istore 9, 2) := by decide +kernel
theorem dX10_at_152 : decode cX10_at 152 = .ok (.iload 9, 2) := by decide +kernel
theorem dX10_at_154 : decode cX10_at 154 = .ok (.aload_n 0, 1) := by decide +kernel
theorem dX10_at_155 : decode cX10_at 155 = .ok (.getfield 72, 3) := by decide +kernel
theorem dX10_at_158 : decode cX10_at 158 = .ok (.bipush 8, 2) := by decide +kernel
theorem dX10_at_160 : decode cX10_at 160 = .ok (.iload_n 1, 1) := by decide +kernel
theorem dX10_at_161 : decode cX10_at 161 = .ok (.imul, 1) := by decide +kernel
theorem dX10_at_162 : decode cX10_at 162 = .ok (.iload 6, 2) := by decide +kernel
theorem dX10_at_164 : decode cX10_at 164 = .ok (.iadd, 1) := by decide +kernel
theorem dX10_at_165 : decode cX10_at 165 = .ok (.iaload, 1) := by decide +kernel
theorem dX10_at_166 : decode cX10_at 166 = .ok (.if_icmp .ge 43, 3) := by decide +kernel
theorem dX10_at_169 : decode cX10_at 169 = .ok (.lload 7, 2) := by decide +kernel
theorem dX10_at_171 : decode cX10_at 171 = .ok (.aload_n 0, 1) := by decide +kernel
theorem dX10_at_172 : decode cX10_at 172 = .ok (.getfield 81, 3) := by decide +kernel
theorem dX10_at_175 : decode cX10_at 175 = .ok (.bipush 8, 2) := by decide +kernel
theorem dX10_at_177 : decode cX10_at 177 = .ok (.iload 5, 2) := by decide +kernel
theorem dX10_at_179 : decode cX10_at 179 = .ok (.imul, 1) := by decide +kernel
theorem dX10_at_180 : decode cX10_at 180 = .ok (.aload_n 0, 1) := by decide +kernel
theorem dX10_at_181 : decode cX10_at 181 = .ok (.getfield 75, 3) := by decide +kernel
theorem dX10_at_184 : decode cX10_at 184 = .ok (.bipush 20, 2) := by decide +kernel
theorem dX10_at_186 : decode cX10_at 186 = .ok (.bipush 8, 2) := by decide +kernel
theorem dX10_at_188 : decode cX10_at 188 = .ok (.iload_n 1, 1) := by decide +kernel
theorem dX10_at_189 : decode cX10_at 189 = .ok (.imul, 1) := by decide +kernel
theorem dX10_at_190 : decode cX10_at 190 = .ok (.iload 6, 2) := by decide +kernel
theorem dX10_at_192 : decode cX10_at 192 = .ok (.iadd, 1) := by decide +kernel
theorem dX10_at_193 : decode cX10_at 193 = .ok (.imul, 1) := by decide +kernel
theorem dX10_at_194 : decode cX10_at 194 = .ok (.iload 9, 2) := by decide +kernel
theorem dX10_at_196 : decode cX10_at 196 = .ok (.iadd, 1) := by decide +kernel
theorem dX10_at_197 : decode cX10_at 197 = .ok (.iaload, 1) := by decide +kernel
theorem dX10_at_198 : decode cX10_at 198 = .ok (.iadd, 1) := by decide +kernel
theorem dX10_at_199 : decode cX10_at 199 = .ok (.laload, 1) := by decide +kernel
theorem dX10_at_200 : decode cX10_at 200 = .ok (.ladd, 1) := by decide +kernel
theorem dX10_at_201 : decode cX10_at 201 = .ok (.lstore 7, 2) := by decide +kernel
theorem dX10_at_203 : decode cX10_at 203 = .ok (.iinc 9 1, 3) := by decide +kernel
theorem dX10_at_206 : decode cX10_at 206 = .ok (.goto (-54), 3) := by decide +kernel
theorem dX10_at_209 : decode cX10_at 209 = .ok (.aload_n 0, 1) := by decide +kernel
theorem dX10_at_210 : decode cX10_at 210 = .ok (.getfield 81, 3) := by decide +kernel
theorem dX10_at_213 : decode cX10_at 213 = .ok (.bipush 8, 2) := by decide +kernel
theorem dX10_at_215 : decode cX10_at 215 = .ok (.iload 5, 2) := by decide +kernel
theorem dX10_at_217 : decode cX10_at 217 = .ok (.imul, 1) := by decide +kernel
theorem dX10_at_218 : decode cX10_at 218 = .ok (.bipush 8, 2) := by decide +kernel
theorem dX10_at_220 : decode cX10_at 220 = .ok (.iadd, 1) := by decide +kernel
theorem dX10_at_221 : decode cX10_at 221 = .ok (.iload 6, 2) := by decide +kernel
theorem dX10_at_223 : decode cX10_at 223 = .ok (.iadd, 1) := by decide +kernel
theorem dX10_at_224 : decode cX10_at 224 = .ok (.lload 7, 2) := by decide +kernel
theorem dX10_at_226 : decode cX10_at 226 = .ok (.lastore, 1) := by decide +kernel
theorem dX10_at_227 : decode cX10_at 227 = .ok (.iinc 6 1, 3) := by decide +kernel
theorem dX10_at_230 : decode cX10_at 230 = .ok (.goto (-91), 3) := by decide +kernel
theorem dX10_at_233 : decode cX10_at 233 = .ok (.iinc 5 1, 3) := by decide +kernel
theorem dX10_at_236 : decode cX10_at 236 = .ok (.goto (-118), 3) := by decide +kernel
theorem dX10_at_239 : decode cX10_at 239 = .ok (.iload_n 2, 1) := by decide +kernel
theorem dX10_at_240 : decode cX10_at 240 = .ok (.istore 6, 2) := by decide +kernel
theorem dX10_at_242 : decode cX10_at 242 = .ok (.iload_n 3, 1) := by decide +kernel
theorem dX10_at_243 : decode cX10_at 243 = .ok (.i2l, 1) := by decide +kernel
theorem dX10_at_244 : decode cX10_at 244 = .ok (.lstore 7, 2) := by decide +kernel
theorem dX10_at_246 : decode cX10_at 246 = .ok (.iload 5, 2) := by decide +kernel
theorem dX10_at_248 : decode cX10_at 248 = .ok (.iconst 1, 1) := by decide +kernel
theorem dX10_at_249 : decode cX10_at 249 = .ok (.isub, 1) := by decide +kernel
theorem dX10_at_250 : decode cX10_at 250 = .ok (.istore 9, 2) := by decide +kernel
theorem dX10_at_252 : decode cX10_at 252 = .ok (.iload 9, 2) := by decide +kernel
theorem dX10_at_254 : decode cX10_at 254 = .ok (.ifCond .lt 95, 3) := by decide +kernel
theorem dX10_at_257 : decode cX10_at 257 = .ok (.bipush 20, 2) := by decide +kernel
theorem dX10_at_259 : decode cX10_at 259 = .ok (.bipush 8, 2) := by decide +kernel
theorem dX10_at_261 : decode cX10_at 261 = .ok (.iload_n 1, 1) := by decide +kernel
theorem dX10_at_262 : decode cX10_at 262 = .ok (.imul, 1) := by decide +kernel
theorem dX10_at_263 : decode cX10_at 263 = .ok (.iload 6, 2) := by decide +kernel
theorem dX10_at_265 : decode cX10_at 265 = .ok (.iadd, 1) := by decide +kernel
theorem dX10_at_266 : decode cX10_at 266 = .ok (.imul, 1) := by decide +kernel
theorem dX10_at_267 : decode cX10_at 267 = .ok (.istore 10, 2) := by decide +kernel
theorem dX10_at_269 : decode cX10_at 269 = .ok (.iconst 0, 1) := by decide +kernel
theorem dX10_at_270 : decode cX10_at 270 = .ok (.istore 11, 2) := by decide +kernel
theorem dX10_at_272 : decode cX10_at 272 = .ok (.lload 7, 2) := by decide +kernel
theorem dX10_at_274 : decode cX10_at 274 = .ok (.aload_n 0, 1) := by decide +kernel
theorem dX10_at_275 : decode cX10_at 275 = .ok (.getfield 81, 3) := by decide +kernel
theorem dX10_at_278 : decode cX10_at 278 = .ok (.bipush 8, 2) := by decide +kernel
theorem dX10_at_280 : decode cX10_at 280 = .ok (.iload 9, 2) := by decide +kernel
theorem dX10_at_282 : decode cX10_at 282 = .ok (.imul, 1) := by decide +kernel
theorem dX10_at_283 : decode cX10_at 283 = .ok (.aload_n 0, 1) := by decide +kernel
theorem dX10_at_284 : decode cX10_at 284 = .ok (.getfield 75, 3) := by decide +kernel
theorem dX10_at_287 : decode cX10_at 287 = .ok (.iload 10, 2) := by decide +kernel
theorem dX10_at_289 : decode cX10_at 289 = .ok (.iload 11, 2) := by decide +kernel
theorem dX10_at_291 : decode cX10_at 291 = .ok (.iadd, 1) := by decide +kernel
theorem dX10_at_292 : decode cX10_at 292 = .ok (.iaload, 1) := by decide +kernel
theorem dX10_at_293 : decode cX10_at 293 = .ok (.iadd, 1) := by decide +kernel
theorem dX10_at_294 : decode cX10_at 294 = .ok (.laload, 1) := by decide +kernel
theorem dX10_at_295 : decode cX10_at 295 = .ok (.lcmp, 1) := by decide +kernel
theorem dX10_at_296 : decode cX10_at 296 = .ok (.ifCond .lt 35, 3) := by decide +kernel
theorem dX10_at_299 : decode cX10_at 299 = .ok (.lload 7, 2) := by decide +kernel
theorem dX10_at_301 : decode cX10_at 301 = .ok (.aload_n 0, 1) := by decide +kernel
theorem dX10_at_302 : decode cX10_at 302 = .ok (.getfield 81, 3) := by decide +kernel
theorem dX10_at_305 : decode cX10_at 305 = .ok (.bipush 8, 2) := by decide +kernel
theorem dX10_at_307 : decode cX10_at 307 = .ok (.iload 9, 2) := by decide +kernel
theorem dX10_at_309 : decode cX10_at 309 = .ok (.imul, 1) := by decide +kernel
theorem dX10_at_310 : decode cX10_at 310 = .ok (.aload_n 0, 1) := by decide +kernel
theorem dX10_at_311 : decode cX10_at 311 = .ok (.getfield 75, 3) := by decide +kernel
theorem dX10_at_314 : decode cX10_at 314 = .ok (.iload 10, 2) := by decide +kernel
theorem dX10_at_316 : decode cX10_at 316 = .ok (.iload 11, 2) := by decide +kernel
theorem dX10_at_318 : decode cX10_at 318 = .ok (.iadd, 1) := by decide +kernel
theorem dX10_at_319 : decode cX10_at 319 = .ok (.iaload, 1) := by decide +kernel
theorem dX10_at_320 : decode cX10_at 320 = .ok (.iadd, 1) := by decide +kernel
theorem dX10_at_321 : decode cX10_at 321 = .ok (.laload, 1) := by decide +kernel
theorem dX10_at_322 : decode cX10_at 322 = .ok (.lsub, 1) := by decide +kernel
theorem dX10_at_323 : decode cX10_at 323 = .ok (.lstore 7, 2) := by decide +kernel
theorem dX10_at_325 : decode cX10_at 325 = .ok (.iinc 11 1, 3) := by decide +kernel
theorem dX10_at_328 : decode cX10_at 328 = .ok (.goto (-56), 3) := by decide +kernel
theorem dX10_at_331 : decode cX10_at 331 = .ok (.aload_n 0, 1) := by decide +kernel
theorem dX10_at_332 : decode cX10_at 332 = .ok (.getfield 75, 3) := by decide +kernel
theorem dX10_at_335 : decode cX10_at 335 = .ok (.iload 10, 2) := by decide +kernel
theorem dX10_at_337 : decode cX10_at 337 = .ok (.iload 11, 2) := by decide +kernel
theorem dX10_at_339 : decode cX10_at 339 = .ok (.iadd, 1) := by decide +kernel
theorem dX10_at_340 : decode cX10_at 340 = .ok (.iaload, 1) := by decide +kernel
theorem dX10_at_341 : decode cX10_at 341 = .ok (.istore 6, 2) := by decide +kernel
theorem dX10_at_343 : decode cX10_at 343 = .ok (.iinc 9 (-1), 3) := by decide +kernel
theorem dX10_at_346 : decode cX10_at 346 = .ok (.goto (-94), 3) := by decide +kernel
theorem dX10_at_349 : decode cX10_at 349 = .ok (.iload 6, 2) := by decide +kernel
theorem dX10_at_351 : decode cX10_at 351 = .ok (.ireturn, 1) := by decide +kernel
theorem dX10_isLoose_0 : decode cX10_isLoose 0 = .ok (.iconst 0, 1) := by decide +kernel
theorem dX10_isLoose_1 : decode cX10_isLoose 1 = .ok (.istore_n 3, 1) := by decide +kernel
theorem dX10_isLoose_2 : decode cX10_isLoose 2 = .ok (.iconst 0, 1) := by decide +kernel
theorem dX10_isLoose_3 : decode cX10_isLoose 3 = .ok (.istore 4, 2) := by decide +kernel
theorem dX10_isLoose_5 : decode cX10_isLoose 5 = .ok (.iload 4, 2) := by decide +kernel
theorem dX10_isLoose_7 : decode cX10_isLoose 7 = .ok (.aload_n 0, 1) := by decide +kernel
theorem dX10_isLoose_8 : decode cX10_isLoose 8 = .ok (.getfield 88, 3) := by decide +kernel
theorem dX10_isLoose_11 : decode cX10_isLoose 11 = .ok (.iload_n 1, 1) := by decide +kernel
theorem dX10_isLoose_12 : decode cX10_isLoose 12 = .ok (.iaload, 1) := by decide +kernel
theorem dX10_isLoose_13 : decode cX10_isLoose 13 = .ok (.if_icmp .ge 26, 3) := by decide +kernel
theorem dX10_isLoose_16 : decode cX10_isLoose 16 = .ok (.iload_n 3, 1) := by decide +kernel
theorem dX10_isLoose_17 : decode cX10_isLoose 17 = .ok (.iconst 1, 1) := by decide +kernel
theorem dX10_isLoose_18 : decode cX10_isLoose 18 = .ok (.aload_n 0, 1) := by decide +kernel
theorem dX10_isLoose_19 : decode cX10_isLoose 19 = .ok (.getfield 85, 3) := by decide +kernel
theorem dX10_isLoose_22 : decode cX10_isLoose 22 = .ok (.bipush 7, 2) := by decide +kernel
theorem dX10_isLoose_24 : decode cX10_isLoose 24 = .ok (.iload_n 1, 1) := by decide +kernel
theorem dX10_isLoose_25 : decode cX10_isLoose 25 = .ok (.imul, 1) := by decide +kernel
theorem dX10_isLoose_26 : decode cX10_isLoose 26 = .ok (.iload 4, 2) := by decide +kernel
theorem dX10_isLoose_28 : decode cX10_isLoose 28 = .ok (.iadd, 1) := by decide +kernel
theorem dX10_isLoose_29 : decode cX10_isLoose 29 = .ok (.iaload, 1) := by decide +kernel
theorem dX10_isLoose_30 : decode cX10_isLoose 30 = .ok (.ishl, 1) := by decide +kernel
theorem dX10_isLoose_31 : decode cX10_isLoose 31 = .ok (.ior, 1) := by decide +kernel
theorem dX10_isLoose_32 : decode cX10_isLoose 32 = .ok (.istore_n 3, 1) := by decide +kernel
theorem dX10_isLoose_33 : decode cX10_isLoose 33 = .ok (.iinc 4 1, 3) := by decide +kernel
theorem dX10_isLoose_36 : decode cX10_isLoose 36 = .ok (.goto (-31), 3) := by decide +kernel
theorem dX10_isLoose_39 : decode cX10_isLoose 39 = .ok (.iload_n 2, 1) := by decide +kernel
theorem dX10_isLoose_40 : decode cX10_isLoose 40 = .ok (.ifCond .eq 11, 3) := by decide +kernel
theorem dX10_isLoose_43 : decode cX10_isLoose 43 = .ok (.iload_n 2, 1) := by decide +kernel
theorem dX10_isLoose_44 : decode cX10_isLoose 44 = .ok (.iload_n 3, 1) := by decide +kernel
theorem dX10_isLoose_45 : decode cX10_isLoose 45 = .ok (.iconst (-1), 1) := by decide +kernel
theorem dX10_isLoose_46 : decode cX10_isLoose 46 = .ok (.ixor, 1) := by decide +kernel
theorem dX10_isLoose_47 : decode cX10_isLoose 47 = .ok (.iand, 1) := by decide +kernel
theorem dX10_isLoose_48 : decode cX10_isLoose 48 = .ok (.ifCond .eq 5, 3) := by decide +kernel
theorem dX10_isLoose_51 : decode cX10_isLoose 51 = .ok (.iconst 0, 1) := by decide +kernel
theorem dX10_isLoose_52 : decode cX10_isLoose 52 = .ok (.ireturn, 1) := by decide +kernel
theorem dX10_isLoose_53 : decode cX10_isLoose 53 = .ok (.iconst 0, 1) := by decide +kernel
theorem dX10_isLoose_54 : decode cX10_isLoose 54 = .ok (.istore 4, 2) := by decide +kernel
theorem dX10_isLoose_56 : decode cX10_isLoose 56 = .ok (.iload 4, 2) := by decide +kernel
theorem dX10_isLoose_58 : decode cX10_isLoose 58 = .ok (.bipush 6, 2) := by decide +kernel
theorem dX10_isLoose_60 : decode cX10_isLoose 60 = .ok (.if_icmp .ge 18, 3) := by decide +kernel
theorem dX10_isLoose_63 : decode cX10_isLoose 63 = .ok (.aload_n 0, 1) := by decide +kernel
theorem dX10_isLoose_64 : decode cX10_isLoose 64 = .ok (.getfield 94, 3) := by decide +kernel
theorem dX10_isLoose_67 : decode cX10_isLoose 67 = .ok (.iload 4, 2) := by decide +kernel
theorem dX10_isLoose_69 : decode cX10_isLoose 69 = .ok (.iload 4, 2) := by decide +kernel
theorem dX10_isLoose_71 : decode cX10_isLoose 71 = .ok (.iastore, 1) := by decide +kernel
theorem dX10_isLoose_72 : decode cX10_isLoose 72 = .ok (.iinc 4 1, 3) := by decide +kernel
theorem dX10_isLoose_75 : decode cX10_isLoose 75 = .ok (.goto (-19), 3) := by decide +kernel
theorem dX10_isLoose_78 : decode cX10_isLoose 78 = .ok (.iconst 0, 1) := by decide +kernel
theorem dX10_isLoose_79 : decode cX10_isLoose 79 = .ok (.istore 4, 2) := by decide +kernel
theorem dX10_isLoose_81 : decode cX10_isLoose 81 = .ok (.iload 4, 2) := by decide +kernel
theorem dX10_isLoose_83 : decode cX10_isLoose 83 = .ok (.iconst 1, 1) := by decide +kernel
theorem dX10_isLoose_84 : decode cX10_isLoose 84 = .ok (.iadd, 1) := by decide +kernel
theorem dX10_isLoose_85 : decode cX10_isLoose 85 = .ok (.aload_n 0, 1) := by decide +kernel
theorem dX10_isLoose_86 : decode cX10_isLoose 86 = .ok (.getfield 88, 3) := by decide +kernel
theorem dX10_isLoose_89 : decode cX10_isLoose 89 = .ok (.iload_n 1, 1) := by decide +kernel
theorem dX10_isLoose_90 : decode cX10_isLoose 90 = .ok (.iaload, 1) := by decide +kernel
theorem dX10_isLoose_91 : decode cX10_isLoose 91 = .ok (.if_icmp .ge 98, 3) := by decide +kernel
theorem dX10_isLoose_94 : decode cX10_isLoose 94 = .ok (.aload_n 0, 1) := by decide +kernel
theorem dX10_isLoose_95 : decode cX10_isLoose 95 = .ok (.getfield 94, 3) := by decide +kernel
theorem dX10_isLoose_98 : decode cX10_isLoose 98 = .ok (.iconst 3, 1) := by decide +kernel
theorem dX10_isLoose_99 : decode cX10_isLoose 99 = .ok (.aload_n 0, 1) := by decide +kernel
theorem dX10_isLoose_100 : decode cX10_isLoose 100 = .ok (.getfield 85, 3) := by decide +kernel
theorem dX10_isLoose_103 : decode cX10_isLoose 103 = .ok (.bipush 7, 2) := by decide +kernel
theorem dX10_isLoose_105 : decode cX10_isLoose 105 = .ok (.iload_n 1, 1) := by decide +kernel
theorem dX10_isLoose_106 : decode cX10_isLoose 106 = .ok (.imul, 1) := by decide +kernel
theorem dX10_isLoose_107 : decode cX10_isLoose 107 = .ok (.iload 4, 2) := by decide +kernel
theorem dX10_isLoose_109 : decode cX10_isLoose 109 = .ok (.iadd, 1) := by decide +kernel
theorem dX10_isLoose_110 : decode cX10_isLoose 110 = .ok (.iaload, 1) := by decide +kernel
theorem dX10_isLoose_111 : decode cX10_isLoose 111 = .ok (.iadd, 1) := by decide +kernel
theorem dX10_isLoose_112 : decode cX10_isLoose 112 = .ok (.iaload, 1) := by decide +kernel
theorem dX10_isLoose_113 : decode cX10_isLoose 113 = .ok (.istore 5, 2) := by decide +kernel
theorem dX10_isLoose_115 : decode cX10_isLoose 115 = .ok (.aload_n 0, 1) := by decide +kernel
theorem dX10_isLoose_116 : decode cX10_isLoose 116 = .ok (.getfield 94, 3) := by decide +kernel
theorem dX10_isLoose_119 : decode cX10_isLoose 119 = .ok (.aload_n 0, 1) := by decide +kernel
theorem dX10_isLoose_120 : decode cX10_isLoose 120 = .ok (.getfield 85, 3) := by decide +kernel
theorem dX10_isLoose_123 : decode cX10_isLoose 123 = .ok (.bipush 7, 2) := by decide +kernel
theorem dX10_isLoose_125 : decode cX10_isLoose 125 = .ok (.iload_n 1, 1) := by decide +kernel
theorem dX10_isLoose_126 : decode cX10_isLoose 126 = .ok (.imul, 1) := by decide +kernel
theorem dX10_isLoose_127 : decode cX10_isLoose 127 = .ok (.iload 4, 2) := by decide +kernel
theorem dX10_isLoose_129 : decode cX10_isLoose 129 = .ok (.iadd, 1) := by decide +kernel
theorem dX10_isLoose_130 : decode cX10_isLoose 130 = .ok (.iconst 1, 1) := by decide +kernel
theorem dX10_isLoose_131 : decode cX10_isLoose 131 = .ok (.iadd, 1) := by decide +kernel
theorem dX10_isLoose_132 : decode cX10_isLoose 132 = .ok (.iaload, 1) := by decide +kernel
theorem dX10_isLoose_133 : decode cX10_isLoose 133 = .ok (.iaload, 1) := by decide +kernel
theorem dX10_isLoose_134 : decode cX10_isLoose 134 = .ok (.istore 6, 2) := by decide +kernel
theorem dX10_isLoose_136 : decode cX10_isLoose 136 = .ok (.iconst 0, 1) := by decide +kernel
theorem dX10_isLoose_137 : decode cX10_isLoose 137 = .ok (.istore 7, 2) := by decide +kernel
theorem dX10_isLoose_139 : decode cX10_isLoose 139 = .ok (.iload 7, 2) := by decide +kernel
theorem dX10_isLoose_141 : decode cX10_isLoose 141 = .ok (.bipush 6, 2) := by decide +kernel
theorem dX10_isLoose_143 : decode cX10_isLoose 143 = .ok (.if_icmp .ge 40, 3) := by decide +kernel
theorem dX10_isLoose_146 : decode cX10_isLoose 146 = .ok (.aload_n 0, 1) := by decide +kernel
theorem dX10_isLoose_147 : decode cX10_isLoose 147 = .ok (.getfield 94, 3) := by decide +kernel
theorem dX10_isLoose_150 : decode cX10_isLoose 150 = .ok (.iload 7, 2) := by decide +kernel
theorem dX10_isLoose_152 : decode cX10_isLoose 152 = .ok (.aload_n 0, 1) := by decide +kernel
theorem dX10_isLoose_153 : decode cX10_isLoose 153 = .ok (.getfield 94, 3) := by decide +kernel
theorem dX10_isLoose_156 : decode cX10_isLoose 156 = .ok (.iload 7, 2) := by decide +kernel
theorem dX10_isLoose_158 : decode cX10_isLoose 158 = .ok (.iaload, 1) := by decide +kernel
theorem dX10_isLoose_159 : decode cX10_isLoose 159 = .ok (.iload 5, 2) := by decide +kernel
theorem dX10_isLoose_161 : decode cX10_isLoose 161 = .ok (.if_icmp .ne 8, 3) := by decide +kernel
theorem dX10_isLoose_164 : decode cX10_isLoose 164 = .ok (.iload 6, 2) := by decide +kernel
theorem dX10_isLoose_166 : decode cX10_isLoose 166 = .ok (.goto 10, 3) := by decide +kernel
theorem dX10_isLoose_169 : decode cX10_isLoose 169 = .ok (.aload_n 0, 1) := by decide +kernel
theorem dX10_isLoose_170 : decode cX10_isLoose 170 = .ok (.getfield 94, 3) := by decide +kernel
theorem dX10_isLoose_173 : decode cX10_isLoose 173 = .ok (.iload 7, 2) := by decide +kernel
theorem dX10_isLoose_175 : decode cX10_isLoose 175 = .ok (.iaload, 1) := by decide +kernel
theorem dX10_isLoose_176 : decode cX10_isLoose 176 = .ok (.iastore, 1) := by decide +kernel
theorem dX10_isLoose_177 : decode cX10_isLoose 177 = .ok (.iinc 7 1, 3) := by decide +kernel
theorem dX10_isLoose_180 : decode cX10_isLoose 180 = .ok (.goto (-41), 3) := by decide +kernel
theorem dX10_isLoose_183 : decode cX10_isLoose 183 = .ok (.iinc 4 1, 3) := by decide +kernel
theorem dX10_isLoose_186 : decode cX10_isLoose 186 = .ok (.goto (-105), 3) := by decide +kernel
theorem dX10_isLoose_189 : decode cX10_isLoose 189 = .ok (.iconst 0, 1) := by decide +kernel
theorem dX10_isLoose_190 : decode cX10_isLoose 190 = .ok (.istore 4, 2) := by decide +kernel
theorem dX10_isLoose_192 : decode cX10_isLoose 192 = .ok (.iload 4, 2) := by decide +kernel
theorem dX10_isLoose_194 : decode cX10_isLoose 194 = .ok (.iconst 3, 1) := by decide +kernel
theorem dX10_isLoose_195 : decode cX10_isLoose 195 = .ok (.if_icmp .ge 65, 3) := by decide +kernel
theorem dX10_isLoose_198 : decode cX10_isLoose 198 = .ok (.iconst 0, 1) := by decide +kernel
theorem dX10_isLoose_199 : decode cX10_isLoose 199 = .ok (.istore 5, 2) := by decide +kernel
theorem dX10_isLoose_201 : decode cX10_isLoose 201 = .ok (.iload 5, 2) := by decide +kernel
theorem dX10_isLoose_203 : decode cX10_isLoose 203 = .ok (.iconst 3, 1) := by decide +kernel
theorem dX10_isLoose_204 : decode cX10_isLoose 204 = .ok (.if_icmp .ge 50, 3) := by decide +kernel
theorem dX10_isLoose_207 : decode cX10_isLoose 207 = .ok (.iload_n 2, 1) := by decide +kernel
theorem dX10_isLoose_208 : decode cX10_isLoose 208 = .ok (.iload 4, 2) := by decide +kernel
theorem dX10_isLoose_210 : decode cX10_isLoose 210 = .ok (.ishr, 1) := by decide +kernel
theorem dX10_isLoose_211 : decode cX10_isLoose 211 = .ok (.iconst 1, 1) := by decide +kernel
theorem dX10_isLoose_212 : decode cX10_isLoose 212 = .ok (.iand, 1) := by decide +kernel
theorem dX10_isLoose_213 : decode cX10_isLoose 213 = .ok (.iconst 1, 1) := by decide +kernel
theorem dX10_isLoose_214 : decode cX10_isLoose 214 = .ok (.if_icmp .ne 34, 3) := by decide +kernel
theorem dX10_isLoose_217 : decode cX10_isLoose 217 = .ok (.iload_n 2, 1) := by decide +kernel
theorem dX10_isLoose_218 : decode cX10_isLoose 218 = .ok (.iload 5, 2) := by decide +kernel
theorem dX10_isLoose_220 : decode cX10_isLoose 220 = .ok (.ishr, 1) := by decide +kernel
theorem dX10_isLoose_221 : decode cX10_isLoose 221 = .ok (.iconst 1, 1) := by decide +kernel
theorem dX10_isLoose_222 : decode cX10_isLoose 222 = .ok (.iand, 1) := by decide +kernel
theorem dX10_isLoose_223 : decode cX10_isLoose 223 = .ok (.iconst 1, 1) := by decide +kernel
theorem dX10_isLoose_224 : decode cX10_isLoose 224 = .ok (.if_icmp .ne 24, 3) := by decide +kernel
theorem dX10_isLoose_227 : decode cX10_isLoose 227 = .ok (.aload_n 0, 1) := by decide +kernel
theorem dX10_isLoose_228 : decode cX10_isLoose 228 = .ok (.getfield 94, 3) := by decide +kernel
theorem dX10_isLoose_231 : decode cX10_isLoose 231 = .ok (.iconst 3, 1) := by decide +kernel
theorem dX10_isLoose_232 : decode cX10_isLoose 232 = .ok (.iload 4, 2) := by decide +kernel
theorem dX10_isLoose_234 : decode cX10_isLoose 234 = .ok (.iadd, 1) := by decide +kernel
theorem dX10_isLoose_235 : decode cX10_isLoose 235 = .ok (.iaload, 1) := by decide +kernel
theorem dX10_isLoose_236 : decode cX10_isLoose 236 = .ok (.aload_n 0, 1) := by decide +kernel
theorem dX10_isLoose_237 : decode cX10_isLoose 237 = .ok (.getfield 94, 3) := by decide +kernel
theorem dX10_isLoose_240 : decode cX10_isLoose 240 = .ok (.iload 5, 2) := by decide +kernel
theorem dX10_isLoose_242 : decode cX10_isLoose 242 = .ok (.iaload, 1) := by decide +kernel
theorem dX10_isLoose_243 : decode cX10_isLoose 243 = .ok (.if_icmp .ne 5, 3) := by decide +kernel
theorem dX10_isLoose_246 : decode cX10_isLoose 246 = .ok (.iconst 0, 1) := by decide +kernel
theorem dX10_isLoose_247 : decode cX10_isLoose 247 = .ok (.ireturn, 1) := by decide +kernel
theorem dX10_isLoose_248 : decode cX10_isLoose 248 = .ok (.iinc 5 1, 3) := by decide +kernel
theorem dX10_isLoose_251 : decode cX10_isLoose 251 = .ok (.goto (-50), 3) := by decide +kernel
theorem dX10_isLoose_254 : decode cX10_isLoose 254 = .ok (.iinc 4 1, 3) := by decide +kernel
theorem dX10_isLoose_257 : decode cX10_isLoose 257 = .ok (.goto (-65), 3) := by decide +kernel
theorem dX10_isLoose_260 : decode cX10_isLoose 260 = .ok (.iconst 1, 1) := by decide +kernel
theorem dX10_isLoose_261 : decode cX10_isLoose 261 = .ok (.ireturn, 1) := by decide +kernel
theorem dX10_findSteps_0 : decode cX10_findSteps 0 = .ok (.aload_n 0, 1) := by decide +kernel
theorem dX10_findSteps_1 : decode cX10_findSteps 1 = .ok (.getfield 88, 3) := by decide +kernel
theorem dX10_findSteps_4 : decode cX10_findSteps 4 = .ok (.iconst 0, 1) := by decide +kernel
theorem dX10_findSteps_5 : decode cX10_findSteps 5 = .ok (.aload_n 0, 1) := by decide +kernel
theorem dX10_findSteps_6 : decode cX10_findSteps 6 = .ok (.getfield 35, 3) := by decide +kernel
theorem dX10_findSteps_9 : decode cX10_findSteps 9 = .ok (.iload_n 1, 1) := by decide +kernel
theorem dX10_findSteps_10 : decode cX10_findSteps 10 = .ok (.iaload, 1) := by decide +kernel
theorem dX10_findSteps_11 : decode cX10_findSteps 11 = .ok (.iastore, 1) := by decide +kernel
theorem dX10_findSteps_12 : decode cX10_findSteps 12 = .ok (.iconst 0, 1) := by decide +kernel
theorem dX10_findSteps_13 : decode cX10_findSteps 13 = .ok (.istore_n 2, 1) := by decide +kernel
theorem dX10_findSteps_14 : decode cX10_findSteps 14 = .ok (.iload_n 2, 1) := by decide +kernel
theorem dX10_findSteps_15 : decode cX10_findSteps 15 = .ok (.aload_n 0, 1) := by decide +kernel
theorem dX10_findSteps_16 : decode cX10_findSteps 16 = .ok (.getfield 35, 3) := by decide +kernel
theorem dX10_findSteps_19 : decode cX10_findSteps 19 = .ok (.iload_n 1, 1) := by decide +kernel
theorem dX10_findSteps_20 : decode cX10_findSteps 20 = .ok (.iaload, 1) := by decide +kernel
theorem dX10_findSteps_21 : decode cX10_findSteps 21 = .ok (.if_icmp .ge 26, 3) := by decide +kernel
theorem dX10_findSteps_24 : decode cX10_findSteps 24 = .ok (.aload_n 0, 1) := by decide +kernel
theorem dX10_findSteps_25 : decode cX10_findSteps 25 = .ok (.getfield 85, 3) := by decide +kernel
theorem dX10_findSteps_28 : decode cX10_findSteps 28 = .ok (.iload_n 2, 1) := by decide +kernel
theorem dX10_findSteps_29 : decode cX10_findSteps 29 = .ok (.aload_n 0, 1) := by decide +kernel
theorem dX10_findSteps_30 : decode cX10_findSteps 30 = .ok (.getfield 38, 3) := by decide +kernel
theorem dX10_findSteps_33 : decode cX10_findSteps 33 = .ok (.bipush 80, 2) := by decide +kernel
theorem dX10_findSteps_35 : decode cX10_findSteps 35 = .ok (.iload_n 1, 1) := by decide +kernel
theorem dX10_findSteps_36 : decode cX10_findSteps 36 = .ok (.imul, 1) := by decide +kernel
theorem dX10_findSteps_37 : decode cX10_findSteps 37 = .ok (.iload_n 2, 1) := by decide +kernel
theorem dX10_findSteps_38 : decode cX10_findSteps 38 = .ok (.iadd, 1) := by decide +kernel
theorem dX10_findSteps_39 : decode cX10_findSteps 39 = .ok (.iaload, 1) := by decide +kernel
theorem dX10_findSteps_40 : decode cX10_findSteps 40 = .ok (.iastore, 1) := by decide +kernel
theorem dX10_findSteps_41 : decode cX10_findSteps 41 = .ok (.iinc 2 1, 3) := by decide +kernel
theorem dX10_findSteps_44 : decode cX10_findSteps 44 = .ok (.goto (-30), 3) := by decide +kernel
theorem dX10_findSteps_47 : decode cX10_findSteps 47 = .ok (.iconst 0, 1) := by decide +kernel
theorem dX10_findSteps_48 : decode cX10_findSteps 48 = .ok (.istore_n 2, 1) := by decide +kernel
theorem dX10_findSteps_49 : decode cX10_findSteps 49 = .ok (.aload_n 0, 1) := by decide +kernel
theorem dX10_findSteps_50 : decode cX10_findSteps 50 = .ok (.getfield 91, 3) := by decide +kernel
theorem dX10_findSteps_53 : decode cX10_findSteps 53 = .ok (.iconst 0, 1) := by decide +kernel
theorem dX10_findSteps_54 : decode cX10_findSteps 54 = .ok (.iconst 0, 1) := by decide +kernel
theorem dX10_findSteps_55 : decode cX10_findSteps 55 = .ok (.iastore, 1) := by decide +kernel
theorem dX10_findSteps_56 : decode cX10_findSteps 56 = .ok (.iload_n 2, 1) := by decide +kernel
theorem dX10_findSteps_57 : decode cX10_findSteps 57 = .ok (.ifCond .lt 160, 3) := by decide +kernel
theorem dX10_findSteps_60 : decode cX10_findSteps 60 = .ok (.aload_n 0, 1) := by decide +kernel
theorem dX10_findSteps_61 : decode cX10_findSteps 61 = .ok (.getfield 88, 3) := by decide +kernel
theorem dX10_findSteps_64 : decode cX10_findSteps 64 = .ok (.iload_n 2, 1) := by decide +kernel
theorem dX10_findSteps_65 : decode cX10_findSteps 65 = .ok (.iaload, 1) := by decide +kernel
theorem dX10_findSteps_66 : decode cX10_findSteps 66 = .ok (.ifCond .ne 10, 3) := by decide +kernel
theorem dX10_findSteps_69 : decode cX10_findSteps 69 = .ok (.aload_n 0, 1) := by decide +kernel
theorem dX10_findSteps_70 : decode cX10_findSteps 70 = .ok (.iload_n 2, 1) := by decide +kernel
theorem dX10_findSteps_71 : decode cX10_findSteps 71 = .ok (.putfield 247, 3) := by decide +kernel
theorem dX10_findSteps_74 : decode cX10_findSteps 74 = .ok (.iconst 1, 1) := by decide +kernel
theorem dX10_findSteps_75 : decode cX10_findSteps 75 = .ok (.ireturn, 1) := by decide +kernel
theorem dX10_findSteps_76 : decode cX10_findSteps 76 = .ok (.aload_n 0, 1) := by decide +kernel
theorem dX10_findSteps_77 : decode cX10_findSteps 77 = .ok (.getfield 91, 3) := by decide +kernel
theorem dX10_findSteps_80 : decode cX10_findSteps 80 = .ok (.iload_n 2, 1) := by decide +kernel
theorem dX10_findSteps_81 : decode cX10_findSteps 81 = .ok (.dup2, 1) := by decide +kernel
theorem dX10_findSteps_82 : decode cX10_findSteps 82 = .ok (.iaload, 1) := by decide +kernel
theorem dX10_findSteps_83 : decode cX10_findSteps 83 = .ok (.iconst 1, 1) := by decide +kernel
theorem dX10_findSteps_84 : decode cX10_findSteps 84 = .ok (.iadd, 1) := by decide +kernel
theorem dX10_findSteps_85 : decode cX10_findSteps 85 = .ok (.iastore, 1) := by decide +kernel
theorem dX10_findSteps_86 : decode cX10_findSteps 86 = .ok (.aload_n 0, 1) := by decide +kernel
theorem dX10_findSteps_87 : decode cX10_findSteps 87 = .ok (.getfield 91, 3) := by decide +kernel
theorem dX10_findSteps_90 : decode cX10_findSteps 90 = .ok (.iload_n 2, 1) := by decide +kernel
theorem dX10_findSteps_91 : decode cX10_findSteps 91 = .ok (.iaload, 1) := by decide +kernel
theorem dX10_findSteps_92 : decode cX10_findSteps 92 = .ok (.bipush 7, 2) := by decide +kernel
theorem dX10_findSteps_94 : decode cX10_findSteps 94 = .ok (.if_icmp .le 9, 3) := by decide +kernel
theorem dX10_findSteps_97 : decode cX10_findSteps 97 = .ok (.iinc 2 (-1), 3) := by decide +kernel
theorem dX10_findSteps_100 : decode cX10_findSteps 100 = .ok (.goto (-44), 3) := by decide +kernel
theorem dX10_findSteps_103 : decode cX10_findSteps 103 = .ok (.aload_n 0, 1) := by decide +kernel
theorem dX10_findSteps_104 : decode cX10_findSteps 104 = .ok (.iload_n 2, 1) := by decide +kernel
theorem dX10_findSteps_105 : decode cX10_findSteps 105 = .ok (.aload_n 0, 1) := by decide +kernel
theorem dX10_findSteps_106 : decode cX10_findSteps 106 = .ok (.getfield 91, 3) := by decide +kernel
theorem dX10_findSteps_109 : decode cX10_findSteps 109 = .ok (.iload_n 2, 1) := by decide +kernel
theorem dX10_findSteps_110 : decode cX10_findSteps 110 = .ok (.iaload, 1) := by decide +kernel
theorem dX10_findSteps_111 : decode cX10_findSteps 111 = .ok (.invokevirtual 250, 3) := by decide +kernel
theorem dX10_findSteps_114 : decode cX10_findSteps 114 = .ok (.ifCond .ne 6, 3) := by decide +kernel
theorem dX10_findSteps_117 : decode cX10_findSteps 117 = .ok (.goto (-61), 3) := by decide +kernel
theorem dX10_findSteps_120 : decode cX10_findSteps 120 = .ok (.iconst 0, 1) := by decide +kernel
theorem dX10_findSteps_121 : decode cX10_findSteps 121 = .ok (.istore_n 3, 1) := by decide +kernel
theorem dX10_findSteps_122 : decode cX10_findSteps 122 = .ok (.iconst 0, 1) := by decide +kernel
theorem dX10_findSteps_123 : decode cX10_findSteps 123 = .ok (.istore 4, 2) := by decide +kernel
theorem dX10_findSteps_125 : decode cX10_findSteps 125 = .ok (.iload 4, 2) := by decide +kernel
theorem dX10_findSteps_127 : decode cX10_findSteps 127 = .ok (.aload_n 0, 1) := by decide +kernel
theorem dX10_findSteps_128 : decode cX10_findSteps 128 = .ok (.getfield 88, 3) := by decide +kernel
theorem dX10_findSteps_131 : decode cX10_findSteps 131 = .ok (.iload_n 2, 1) := by decide +kernel
theorem dX10_findSteps_132 : decode cX10_findSteps 132 = .ok (.iaload, 1) := by decide +kernel
theorem dX10_findSteps_133 : decode cX10_findSteps 133 = .ok (.if_icmp .ge 60, 3) := by decide +kernel
theorem dX10_findSteps_136 : decode cX10_findSteps 136 = .ok (.aload_n 0, 1) := by decide +kernel
theorem dX10_findSteps_137 : decode cX10_findSteps 137 = .ok (.getfield 85, 3) := by decide +kernel
theorem dX10_findSteps_140 : decode cX10_findSteps 140 = .ok (.bipush 7, 2) := by decide +kernel
theorem dX10_findSteps_142 : decode cX10_findSteps 142 = .ok (.iload_n 2, 1) := by decide +kernel
theorem dX10_findSteps_143 : decode cX10_findSteps 143 = .ok (.imul, 1) := by decide +kernel
theorem dX10_findSteps_144 : decode cX10_findSteps 144 = .ok (.iload 4, 2) := by decide +kernel
theorem dX10_findSteps_146 : decode cX10_findSteps 146 = .ok (.iadd, 1) := by decide +kernel
theorem dX10_findSteps_147 : decode cX10_findSteps 147 = .ok (.iaload, 1) := by decide +kernel
theorem dX10_findSteps_148 : decode cX10_findSteps 148 = .ok (.istore 5, 2) := by decide +kernel
theorem dX10_findSteps_150 : decode cX10_findSteps 150 = .ok (.aload_n 0, 1) := by decide +kernel
theorem dX10_findSteps_151 : decode cX10_findSteps 151 = .ok (.getfield 91, 3) := by decide +kernel
theorem dX10_findSteps_154 : decode cX10_findSteps 154 = .ok (.iload_n 2, 1) := by decide +kernel
theorem dX10_findSteps_155 : decode cX10_findSteps 155 = .ok (.iaload, 1) := by decide +kernel
theorem dX10_findSteps_156 : decode cX10_findSteps 156 = .ok (.iload 5, 2) := by decide +kernel
theorem dX10_findSteps_158 : decode cX10_findSteps 158 = .ok (.ishr, 1) := by decide +kernel
theorem dX10_findSteps_159 : decode cX10_findSteps 159 = .ok (.iconst 1, 1) := by decide +kernel
theorem dX10_findSteps_160 : decode cX10_findSteps 160 = .ok (.iand, 1) := by decide +kernel
theorem dX10_findSteps_161 : decode cX10_findSteps 161 = .ok (.iconst 1, 1) := by decide +kernel
theorem dX10_findSteps_162 : decode cX10_findSteps 162 = .ok (.if_icmp .ne 6, 3) := by decide +kernel
theorem dX10_findSteps_165 : decode cX10_findSteps 165 = .ok (.goto 22, 3) := by decide +kernel
theorem dX10_findSteps_168 : decode cX10_findSteps 168 = .ok (.aload_n 0, 1) := by decide +kernel
theorem dX10_findSteps_169 : decode cX10_findSteps 169 = .ok (.getfield 85, 3) := by decide +kernel
theorem dX10_findSteps_172 : decode cX10_findSteps 172 = .ok (.bipush 7, 2) := by decide +kernel
theorem dX10_findSteps_174 : decode cX10_findSteps 174 = .ok (.iload_n 2, 1) := by decide +kernel
theorem dX10_findSteps_175 : decode cX10_findSteps 175 = .ok (.imul, 1) := by decide +kernel
theorem dX10_findSteps_176 : decode cX10_findSteps 176 = .ok (.bipush 7, 2) := by decide +kernel
theorem dX10_findSteps_178 : decode cX10_findSteps 178 = .ok (.iadd, 1) := by decide +kernel
theorem dX10_findSteps_179 : decode cX10_findSteps 179 = .ok (.iload_n 3, 1) := by decide +kernel
theorem dX10_findSteps_180 : decode cX10_findSteps 180 = .ok (.iadd, 1) := by decide +kernel
theorem dX10_findSteps_181 : decode cX10_findSteps 181 = .ok (.iload 5, 2) := by decide +kernel
theorem dX10_findSteps_183 : decode cX10_findSteps 183 = .ok (.iastore, 1) := by decide +kernel
theorem dX10_findSteps_184 : decode cX10_findSteps 184 = .ok (.iinc 3 1, 3) := by decide +kernel
theorem dX10_findSteps_187 : decode cX10_findSteps 187 = .ok (.iinc 4 1, 3) := by decide +kernel
theorem dX10_findSteps_190 : decode cX10_findSteps 190 = .ok (.goto (-65), 3) := by decide +kernel
theorem dX10_findSteps_193 : decode cX10_findSteps 193 = .ok (.aload_n 0, 1) := by decide +kernel
theorem dX10_findSteps_194 : decode cX10_findSteps 194 = .ok (.getfield 88, 3) := by decide +kernel
theorem dX10_findSteps_197 : decode cX10_findSteps 197 = .ok (.iload_n 2, 1) := by decide +kernel
theorem dX10_findSteps_198 : decode cX10_findSteps 198 = .ok (.iconst 1, 1) := by decide +kernel
theorem dX10_findSteps_199 : decode cX10_findSteps 199 = .ok (.iadd, 1) := by decide +kernel
theorem dX10_findSteps_200 : decode cX10_findSteps 200 = .ok (.iload_n 3, 1) := by decide +kernel
theorem dX10_findSteps_201 : decode cX10_findSteps 201 = .ok (.iastore, 1) := by decide +kernel
theorem dX10_findSteps_202 : decode cX10_findSteps 202 = .ok (.aload_n 0, 1) := by decide +kernel
theorem dX10_findSteps_203 : decode cX10_findSteps 203 = .ok (.getfield 91, 3) := by decide +kernel
theorem dX10_findSteps_206 : decode cX10_findSteps 206 = .ok (.iload_n 2, 1) := by decide +kernel
theorem dX10_findSteps_207 : decode cX10_findSteps 207 = .ok (.iconst 1, 1) := by decide +kernel
theorem dX10_findSteps_208 : decode cX10_findSteps 208 = .ok (.iadd, 1) := by decide +kernel
theorem dX10_findSteps_209 : decode cX10_findSteps 209 = .ok (.iconst 0, 1) := by decide +kernel
theorem dX10_findSteps_210 : decode cX10_findSteps 210 = .ok (.iastore, 1) := by decide +kernel
theorem dX10_findSteps_211 : decode cX10_findSteps 211 = .ok (.iinc 2 1, 3) := by decide +kernel
theorem dX10_findSteps_214 : decode cX10_findSteps 214 = .ok (.goto (-158), 3) := by decide +kernel
theorem dX10_findSteps_217 : decode cX10_findSteps 217 = .ok (.aload_n 0, 1) := by decide +kernel
theorem dX10_findSteps_218 : decode cX10_findSteps 218 = .ok (.iconst 0, 1) := by decide +kernel
theorem dX10_findSteps_219 : decode cX10_findSteps 219 = .ok (.putfield 247, 3) := by decide +kernel
theorem dX10_findSteps_222 : decode cX10_findSteps 222 = .ok (.iconst 0, 1) := by decide +kernel
theorem dX10_findSteps_223 : decode cX10_findSteps 223 = .ok (.ireturn, 1) := by decide +kernel
theorem dX10_stands_0 : decode cX10_stands 0 = .ok (.iconst 0, 1) := by decide +kernel
theorem dX10_stands_1 : decode cX10_stands 1 = .ok (.istore_n 2, 1) := by decide +kernel
theorem dX10_stands_2 : decode cX10_stands 2 = .ok (.iconst 0, 1) := by decide +kernel
theorem dX10_stands_3 : decode cX10_stands 3 = .ok (.istore_n 3, 1) := by decide +kernel
theorem dX10_stands_4 : decode cX10_stands 4 = .ok (.iload_n 3, 1) := by decide +kernel
theorem dX10_stands_5 : decode cX10_stands 5 = .ok (.iconst 3, 1) := by decide +kernel
theorem dX10_stands_6 : decode cX10_stands 6 = .ok (.if_icmp .ge 38, 3) := by decide +kernel
theorem dX10_stands_9 : decode cX10_stands 9 = .ok (.iload_n 2, 1) := by decide +kernel
theorem dX10_stands_10 : decode cX10_stands 10 = .ok (.aload_n 0, 1) := by decide +kernel
theorem dX10_stands_11 : decode cX10_stands 11 = .ok (.getfield 38, 3) := by decide +kernel
theorem dX10_stands_14 : decode cX10_stands 14 = .ok (.bipush 80, 2) := by decide +kernel
theorem dX10_stands_16 : decode cX10_stands 16 = .ok (.iload_n 1, 1) := by decide +kernel
theorem dX10_stands_17 : decode cX10_stands 17 = .ok (.imul, 1) := by decide +kernel
theorem dX10_stands_18 : decode cX10_stands 18 = .ok (.aload_n 0, 1) := by decide +kernel
theorem dX10_stands_19 : decode cX10_stands 19 = .ok (.getfield 35, 3) := by decide +kernel
theorem dX10_stands_22 : decode cX10_stands 22 = .ok (.iload_n 1, 1) := by decide +kernel
theorem dX10_stands_23 : decode cX10_stands 23 = .ok (.iaload, 1) := by decide +kernel
theorem dX10_stands_24 : decode cX10_stands 24 = .ok (.iload_n 3, 1) := by decide +kernel
theorem dX10_stands_25 : decode cX10_stands 25 = .ok (.invokestatic 147, 3) := by decide +kernel
theorem dX10_stands_28 : decode cX10_stands 28 = .ok (.ifCond .eq 7, 3) := by decide +kernel
theorem dX10_stands_31 : decode cX10_stands 31 = .ok (.iconst 1, 1) := by decide +kernel
theorem dX10_stands_32 : decode cX10_stands 32 = .ok (.goto 4, 3) := by decide +kernel
theorem dX10_stands_35 : decode cX10_stands 35 = .ok (.iconst 0, 1) := by decide +kernel
theorem dX10_stands_36 : decode cX10_stands 36 = .ok (.iadd, 1) := by decide +kernel
theorem dX10_stands_37 : decode cX10_stands 37 = .ok (.istore_n 2, 1) := by decide +kernel
theorem dX10_stands_38 : decode cX10_stands 38 = .ok (.iinc 3 1, 3) := by decide +kernel
theorem dX10_stands_41 : decode cX10_stands 41 = .ok (.goto (-37), 3) := by decide +kernel
theorem dX10_stands_44 : decode cX10_stands 44 = .ok (.iconst 0, 1) := by decide +kernel
theorem dX10_stands_45 : decode cX10_stands 45 = .ok (.istore_n 3, 1) := by decide +kernel
theorem dX10_stands_46 : decode cX10_stands 46 = .ok (.iconst 0, 1) := by decide +kernel
theorem dX10_stands_47 : decode cX10_stands 47 = .ok (.istore 4, 2) := by decide +kernel
theorem dX10_stands_49 : decode cX10_stands 49 = .ok (.iload 4, 2) := by decide +kernel
theorem dX10_stands_51 : decode cX10_stands 51 = .ok (.iload_n 2, 1) := by decide +kernel
theorem dX10_stands_52 : decode cX10_stands 52 = .ok (.if_icmp .ge 56, 3) := by decide +kernel
theorem dX10_stands_55 : decode cX10_stands 55 = .ok (.aload_n 0, 1) := by decide +kernel
theorem dX10_stands_56 : decode cX10_stands 56 = .ok (.getfield 97, 3) := by decide +kernel
theorem dX10_stands_59 : decode cX10_stands 59 = .ok (.iload_n 3, 1) := by decide +kernel
theorem dX10_stands_60 : decode cX10_stands 60 = .ok (.iload 4, 2) := by decide +kernel
theorem dX10_stands_62 : decode cX10_stands 62 = .ok (.iastore, 1) := by decide +kernel
theorem dX10_stands_63 : decode cX10_stands 63 = .ok (.iconst 0, 1) := by decide +kernel
theorem dX10_stands_64 : decode cX10_stands 64 = .ok (.istore 5, 2) := by decide +kernel
theorem dX10_stands_66 : decode cX10_stands 66 = .ok (.iload 5, 2) := by decide +kernel
theorem dX10_stands_68 : decode cX10_stands 68 = .ok (.iload_n 3, 1) := by decide +kernel
theorem dX10_stands_69 : decode cX10_stands 69 = .ok (.if_icmp .ge 27, 3) := by decide +kernel
theorem dX10_stands_72 : decode cX10_stands 72 = .ok (.aload_n 0, 1) := by decide +kernel
theorem dX10_stands_73 : decode cX10_stands 73 = .ok (.getfield 97, 3) := by decide +kernel
theorem dX10_stands_76 : decode cX10_stands 76 = .ok (.iload_n 3, 1) := by decide +kernel
theorem dX10_stands_77 : decode cX10_stands 77 = .ok (.iconst 1, 1) := by decide +kernel
theorem dX10_stands_78 : decode cX10_stands 78 = .ok (.iadd, 1) := by decide +kernel
theorem dX10_stands_79 : decode cX10_stands 79 = .ok (.iload 5, 2) := by decide +kernel
theorem dX10_stands_81 : decode cX10_stands 81 = .ok (.iadd, 1) := by decide +kernel
theorem dX10_stands_82 : decode cX10_stands 82 = .ok (.aload_n 0, 1) := by decide +kernel
theorem dX10_stands_83 : decode cX10_stands 83 = .ok (.getfield 97, 3) := by decide +kernel
theorem dX10_stands_86 : decode cX10_stands 86 = .ok (.iload 5, 2) := by decide +kernel
theorem dX10_stands_88 : decode cX10_stands 88 = .ok (.iaload, 1) := by decide +kernel
theorem dX10_stands_89 : decode cX10_stands 89 = .ok (.iastore, 1) := by decide +kernel
theorem dX10_stands_90 : decode cX10_stands 90 = .ok (.iinc 5 1, 3) := by decide +kernel
theorem dX10_stands_93 : decode cX10_stands 93 = .ok (.goto (-27), 3) := by decide +kernel
theorem dX10_stands_96 : decode cX10_stands 96 = .ok (.iconst 2, 1) := by decide +kernel
theorem dX10_stands_97 : decode cX10_stands 97 = .ok (.iload_n 3, 1) := by decide +kernel
theorem dX10_stands_98 : decode cX10_stands 98 = .ok (.imul, 1) := by decide +kernel
theorem dX10_stands_99 : decode cX10_stands 99 = .ok (.iconst 1, 1) := by decide +kernel
theorem dX10_stands_100 : decode cX10_stands 100 = .ok (.iadd, 1) := by decide +kernel
theorem dX10_stands_101 : decode cX10_stands 101 = .ok (.istore_n 3, 1) := by decide +kernel
theorem dX10_stands_102 : decode cX10_stands 102 = .ok (.iinc 4 1, 3) := by decide +kernel
theorem dX10_stands_105 : decode cX10_stands 105 = .ok (.goto (-56), 3) := by decide +kernel
theorem dX10_stands_108 : decode cX10_stands 108 = .ok (.iconst 0, 1) := by decide +kernel
theorem dX10_stands_109 : decode cX10_stands 109 = .ok (.istore 4, 2) := by decide +kernel
theorem dX10_stands_111 : decode cX10_stands 111 = .ok (.iload 4, 2) := by decide +kernel
theorem dX10_stands_113 : decode cX10_stands 113 = .ok (.iload_n 3, 1) := by decide +kernel
theorem dX10_stands_114 : decode cX10_stands 114 = .ok (.if_icmp .ge 58, 3) := by decide +kernel
theorem dX10_stands_117 : decode cX10_stands 117 = .ok (.iload 4, 2) := by decide +kernel
theorem dX10_stands_119 : decode cX10_stands 119 = .ok (.iconst 1, 1) := by decide +kernel
theorem dX10_stands_120 : decode cX10_stands 120 = .ok (.iadd, 1) := by decide +kernel
theorem dX10_stands_121 : decode cX10_stands 121 = .ok (.istore 5, 2) := by decide +kernel
theorem dX10_stands_123 : decode cX10_stands 123 = .ok (.iload 5, 2) := by decide +kernel
theorem dX10_stands_125 : decode cX10_stands 125 = .ok (.iload_n 3, 1) := by decide +kernel
theorem dX10_stands_126 : decode cX10_stands 126 = .ok (.if_icmp .gt 40, 3) := by decide +kernel
theorem dX10_stands_129 : decode cX10_stands 129 = .ok (.aload_n 0, 1) := by decide +kernel
theorem dX10_stands_130 : decode cX10_stands 130 = .ok (.aload_n 0, 1) := by decide +kernel
theorem dX10_stands_131 : decode cX10_stands 131 = .ok (.getfield 38, 3) := by decide +kernel
theorem dX10_stands_134 : decode cX10_stands 134 = .ok (.bipush 80, 2) := by decide +kernel
theorem dX10_stands_136 : decode cX10_stands 136 = .ok (.iload_n 1, 1) := by decide +kernel
theorem dX10_stands_137 : decode cX10_stands 137 = .ok (.imul, 1) := by decide +kernel
theorem dX10_stands_138 : decode cX10_stands 138 = .ok (.aload_n 0, 1) := by decide +kernel
theorem dX10_stands_139 : decode cX10_stands 139 = .ok (.getfield 35, 3) := by decide +kernel
theorem dX10_stands_142 : decode cX10_stands 142 = .ok (.iload_n 1, 1) := by decide +kernel
theorem dX10_stands_143 : decode cX10_stands 143 = .ok (.iaload, 1) := by decide +kernel
theorem dX10_stands_144 : decode cX10_stands 144 = .ok (.aload_n 0, 1) := by decide +kernel
theorem dX10_stands_145 : decode cX10_stands 145 = .ok (.getfield 97, 3) := by decide +kernel
theorem dX10_stands_148 : decode cX10_stands 148 = .ok (.iload 4, 2) := by decide +kernel
theorem dX10_stands_150 : decode cX10_stands 150 = .ok (.iload 5, 2) := by decide +kernel
theorem dX10_stands_152 : decode cX10_stands 152 = .ok (.invokevirtual 140, 3) := by decide +kernel
theorem dX10_stands_155 : decode cX10_stands 155 = .ok (.ifCond .eq 5, 3) := by decide +kernel
theorem dX10_stands_158 : decode cX10_stands 158 = .ok (.iconst 1, 1) := by decide +kernel
theorem dX10_stands_159 : decode cX10_stands 159 = .ok (.ireturn, 1) := by decide +kernel
theorem dX10_stands_160 : decode cX10_stands 160 = .ok (.iinc 5 1, 3) := by decide +kernel
theorem dX10_stands_163 : decode cX10_stands 163 = .ok (.goto (-40), 3) := by decide +kernel
theorem dX10_stands_166 : decode cX10_stands 166 = .ok (.iinc 4 1, 3) := by decide +kernel
theorem dX10_stands_169 : decode cX10_stands 169 = .ok (.goto (-58), 3) := by decide +kernel
theorem dX10_stands_172 : decode cX10_stands 172 = .ok (.iconst 0, 1) := by decide +kernel
theorem dX10_stands_173 : decode cX10_stands 173 = .ok (.ireturn, 1) := by decide +kernel
theorem dX10_shape_0 : decode cX10_shape 0 = .ok (.aload_n 0, 1) := by decide +kernel
theorem dX10_shape_1 : decode cX10_shape 1 = .ok (.iconst 0, 1) := by decide +kernel
theorem dX10_shape_2 : decode cX10_shape 2 = .ok (.putfield 1, 3) := by decide +kernel
theorem dX10_shape_5 : decode cX10_shape 5 = .ok (.aload_n 0, 1) := by decide +kernel
theorem dX10_shape_6 : decode cX10_shape 6 = .ok (.iload_n 1, 1) := by decide +kernel
theorem dX10_shape_7 : decode cX10_shape 7 = .ok (.ifCond .lt 15, 3) := by decide +kernel
theorem dX10_shape_10 : decode cX10_shape 10 = .ok (.iload_n 1, 1) := by decide +kernel
theorem dX10_shape_11 : decode cX10_shape 11 = .ok (.aload_n 0, 1) := by decide +kernel
theorem dX10_shape_12 : decode cX10_shape 12 = .ok (.getfield 122, 3) := by decide +kernel
theorem dX10_shape_15 : decode cX10_shape 15 = .ok (.if_icmp .ge 7, 3) := by decide +kernel
theorem dX10_shape_18 : decode cX10_shape 18 = .ok (.iconst 1, 1) := by decide +kernel
theorem dX10_shape_19 : decode cX10_shape 19 = .ok (.goto 4, 3) := by decide +kernel
theorem dX10_shape_22 : decode cX10_shape 22 = .ok (.iconst 0, 1) := by decide +kernel
theorem dX10_shape_23 : decode cX10_shape 23 = .ok (.iconst 1, 1) := by decide +kernel
theorem dX10_shape_24 : decode cX10_shape 24 = .ok (.invokevirtual 100, 3) := by decide +kernel
theorem dX10_shape_27 : decode cX10_shape 27 = .ok (.ifCond .eq 20, 3) := by decide +kernel
theorem dX10_shape_30 : decode cX10_shape 30 = .ok (.aload_n 0, 1) := by decide +kernel
theorem dX10_shape_31 : decode cX10_shape 31 = .ok (.iload_n 2, 1) := by decide +kernel
theorem dX10_shape_32 : decode cX10_shape 32 = .ok (.ifCond .lt 7, 3) := by decide +kernel
theorem dX10_shape_35 : decode cX10_shape 35 = .ok (.iconst 1, 1) := by decide +kernel
theorem dX10_shape_36 : decode cX10_shape 36 = .ok (.goto 4, 3) := by decide +kernel
theorem dX10_shape_39 : decode cX10_shape 39 = .ok (.iconst 0, 1) := by decide +kernel
theorem dX10_shape_40 : decode cX10_shape 40 = .ok (.iconst 2, 1) := by decide +kernel
theorem dX10_shape_41 : decode cX10_shape 41 = .ok (.invokevirtual 100, 3) := by decide +kernel
theorem dX10_shape_44 : decode cX10_shape 44 = .ok (.ifCond .ne 5, 3) := by decide +kernel
theorem dX10_shape_47 : decode cX10_shape 47 = .ok (.iconst 0, 1) := by decide +kernel
theorem dX10_shape_48 : decode cX10_shape 48 = .ok (.ireturn, 1) := by decide +kernel
theorem dX10_shape_49 : decode cX10_shape 49 = .ok (.aload_n 0, 1) := by decide +kernel
theorem dX10_shape_50 : decode cX10_shape 50 = .ok (.getfield 26, 3) := by decide +kernel
theorem dX10_shape_53 : decode cX10_shape 53 = .ok (.iload_n 1, 1) := by decide +kernel
theorem dX10_shape_54 : decode cX10_shape 54 = .ok (.iaload, 1) := by decide +kernel
theorem dX10_shape_55 : decode cX10_shape 55 = .ok (.iconst 5, 1) := by decide +kernel
theorem dX10_shape_56 : decode cX10_shape 56 = .ok (.if_icmp .eq 5, 3) := by decide +kernel
theorem dX10_shape_59 : decode cX10_shape 59 = .ok (.iconst (-1), 1) := by decide +kernel
theorem dX10_shape_60 : decode cX10_shape 60 = .ok (.ireturn, 1) := by decide +kernel
theorem dX10_shape_61 : decode cX10_shape 61 = .ok (.iload_n 2, 1) := by decide +kernel
theorem dX10_shape_62 : decode cX10_shape 62 = .ok (.iconst 1, 1) := by decide +kernel
theorem dX10_shape_63 : decode cX10_shape 63 = .ok (.if_icmp .ne 17, 3) := by decide +kernel
theorem dX10_shape_66 : decode cX10_shape 66 = .ok (.aload_n 0, 1) := by decide +kernel
theorem dX10_shape_67 : decode cX10_shape 67 = .ok (.iload_n 1, 1) := by decide +kernel
theorem dX10_shape_68 : decode cX10_shape 68 = .ok (.invokevirtual 253, 3) := by decide +kernel
theorem dX10_shape_71 : decode cX10_shape 71 = .ok (.ifCond .eq 7, 3) := by decide +kernel
theorem dX10_shape_74 : decode cX10_shape 74 = .ok (.iconst 1, 1) := by decide +kernel
theorem dX10_shape_75 : decode cX10_shape 75 = .ok (.goto 4, 3) := by decide +kernel
theorem dX10_shape_78 : decode cX10_shape 78 = .ok (.iconst 0, 1) := by decide +kernel
theorem dX10_shape_79 : decode cX10_shape 79 = .ok (.ireturn, 1) := by decide +kernel
theorem dX10_shape_80 : decode cX10_shape 80 = .ok (.aload_n 0, 1) := by decide +kernel
theorem dX10_shape_81 : decode cX10_shape 81 = .ok (.iload_n 1, 1) := by decide +kernel
theorem dX10_shape_82 : decode cX10_shape 82 = .ok (.invokevirtual 256, 3) := by decide +kernel
theorem dX10_shape_85 : decode cX10_shape 85 = .ok (.istore_n 3, 1) := by decide +kernel
theorem dX10_shape_86 : decode cX10_shape 86 = .ok (.iload_n 2, 1) := by decide +kernel
theorem dX10_shape_87 : decode cX10_shape 87 = .ok (.ifCond .ne 13, 3) := by decide +kernel
theorem dX10_shape_90 : decode cX10_shape 90 = .ok (.iload_n 3, 1) := by decide +kernel
theorem dX10_shape_91 : decode cX10_shape 91 = .ok (.ifCond .eq 7, 3) := by decide +kernel
theorem dX10_shape_94 : decode cX10_shape 94 = .ok (.iconst 1, 1) := by decide +kernel
theorem dX10_shape_95 : decode cX10_shape 95 = .ok (.goto 4, 3) := by decide +kernel
theorem dX10_shape_98 : decode cX10_shape 98 = .ok (.iconst 0, 1) := by decide +kernel
theorem dX10_shape_99 : decode cX10_shape 99 = .ok (.ireturn, 1) := by decide +kernel
theorem dX10_shape_100 : decode cX10_shape 100 = .ok (.iload_n 2, 1) := by decide +kernel
theorem dX10_shape_101 : decode cX10_shape 101 = .ok (.iconst 2, 1) := by decide +kernel
theorem dX10_shape_102 : decode cX10_shape 102 = .ok (.if_icmp .ne 8, 3) := by decide +kernel
theorem dX10_shape_105 : decode cX10_shape 105 = .ok (.aload_n 0, 1) := by decide +kernel
theorem dX10_shape_106 : decode cX10_shape 106 = .ok (.getfield 247, 3) := by decide +kernel
theorem dX10_shape_109 : decode cX10_shape 109 = .ok (.ireturn, 1) := by decide +kernel
theorem dX10_shape_110 : decode cX10_shape 110 = .ok (.iload_n 2, 1) := by decide +kernel
theorem dX10_shape_111 : decode cX10_shape 111 = .ok (.iconst 3, 1) := by decide +kernel
theorem dX10_shape_112 : decode cX10_shape 112 = .ok (.isub, 1) := by decide +kernel
theorem dX10_shape_113 : decode cX10_shape 113 = .ok (.aload_n 0, 1) := by decide +kernel
theorem dX10_shape_114 : decode cX10_shape 114 = .ok (.getfield 247, 3) := by decide +kernel
theorem dX10_shape_117 : decode cX10_shape 117 = .ok (.if_icmp .ge 14, 3) := by decide +kernel
theorem dX10_shape_120 : decode cX10_shape 120 = .ok (.aload_n 0, 1) := by decide +kernel
theorem dX10_shape_121 : decode cX10_shape 121 = .ok (.getfield 91, 3) := by decide +kernel
theorem dX10_shape_124 : decode cX10_shape 124 = .ok (.iload_n 2, 1) := by decide +kernel
theorem dX10_shape_125 : decode cX10_shape 125 = .ok (.iconst 3, 1) := by decide +kernel
theorem dX10_shape_126 : decode cX10_shape 126 = .ok (.isub, 1) := by decide +kernel
theorem dX10_shape_127 : decode cX10_shape 127 = .ok (.iaload, 1) := by decide +kernel
theorem dX10_shape_128 : decode cX10_shape 128 = .ok (.goto 4, 3) := by decide +kernel
theorem dX10_shape_131 : decode cX10_shape 131 = .ok (.iconst 0, 1) := by decide +kernel
theorem dX10_shape_132 : decode cX10_shape 132 = .ok (.ireturn, 1) := by decide +kernel
end
section
theorem dL_sheet_0 : decode cL_sheet 0 = .ok (.aload_n 2, 1) := by decide +kernel
theorem dL_sheet_1 : decode cL_sheet 1 = .ok (.iconst 0, 1) := by decide +kernel
theorem dL_sheet_2 : decode cL_sheet 2 = .ok (.aload_n 0, 1) := by decide +kernel
theorem dL_sheet_3 : decode cL_sheet 3 = .ok (.iload_n 1, 1) := by decide +kernel
theorem dL_sheet_4 : decode cL_sheet 4 = .ok (.invokevirtual 7, 3) := by decide +kernel
theorem dL_sheet_7 : decode cL_sheet 7 = .ok (.i2l, 1) := by decide +kernel
theorem dL_sheet_8 : decode cL_sheet 8 = .ok (.lastore, 1) := by decide +kernel
theorem dL_sheet_9 : decode cL_sheet 9 = .ok (.goto 9, 3) := by decide +kernel
theorem dL_sheet_12 : decode cL_sheet 12 = .ok (.astore_n 3, 1) := by decide +kernel
theorem dL_sheet_13 : decode cL_sheet 13 = .ok (.iconst 1, 1) := by decide +kernel
theorem dL_sheet_14 : decode cL_sheet 14 = .ok (.ireturn, 1) := by decide +kernel
theorem dL_sheet_15 : decode cL_sheet 15 = .ok (.astore_n 3, 1) := by decide +kernel
theorem dL_sheet_16 : decode cL_sheet 16 = .ok (.iconst 2, 1) := by decide +kernel
theorem dL_sheet_17 : decode cL_sheet 17 = .ok (.ireturn, 1) := by decide +kernel
theorem dL_sheet_18 : decode cL_sheet 18 = .ok (.iconst 0, 1) := by decide +kernel
theorem dL_sheet_19 : decode cL_sheet 19 = .ok (.ireturn, 1) := by decide +kernel
theorem dL_row_0 : decode cL_row 0 = .ok (.aload 4, 2) := by decide +kernel
theorem dL_row_2 : decode cL_row 2 = .ok (.iconst 0, 1) := by decide +kernel
theorem dL_row_3 : decode cL_row 3 = .ok (.aload_n 0, 1) := by decide +kernel
theorem dL_row_4 : decode cL_row 4 = .ok (.iload_n 1, 1) := by decide +kernel
theorem dL_row_5 : decode cL_row 5 = .ok (.iload_n 2, 1) := by decide +kernel
theorem dL_row_6 : decode cL_row 6 = .ok (.iload_n 3, 1) := by decide +kernel
theorem dL_row_7 : decode cL_row 7 = .ok (.invokevirtual 17, 3) := by decide +kernel
theorem dL_row_10 : decode cL_row 10 = .ok (.i2l, 1) := by decide +kernel
theorem dL_row_11 : decode cL_row 11 = .ok (.lastore, 1) := by decide +kernel
theorem dL_row_12 : decode cL_row 12 = .ok (.goto 7, 3) := by decide +kernel
theorem dL_row_15 : decode cL_row 15 = .ok (.astore 5, 2) := by decide +kernel
theorem dL_row_17 : decode cL_row 17 = .ok (.iconst 1, 1) := by decide +kernel
theorem dL_row_18 : decode cL_row 18 = .ok (.ireturn, 1) := by decide +kernel
theorem dL_row_19 : decode cL_row 19 = .ok (.iconst 0, 1) := by decide +kernel
theorem dL_row_20 : decode cL_row 20 = .ok (.ireturn, 1) := by decide +kernel
theorem dL_put_0 : decode cL_put 0 = .ok (.aload 5, 2) := by decide +kernel
theorem dL_put_2 : decode cL_put 2 = .ok (.iconst 0, 1) := by decide +kernel
theorem dL_put_3 : decode cL_put 3 = .ok (.aload_n 0, 1) := by decide +kernel
theorem dL_put_4 : decode cL_put 4 = .ok (.iload_n 1, 1) := by decide +kernel
theorem dL_put_5 : decode cL_put 5 = .ok (.iload_n 2, 1) := by decide +kernel
theorem dL_put_6 : decode cL_put 6 = .ok (.iload_n 3, 1) := by decide +kernel
theorem dL_put_7 : decode cL_put 7 = .ok (.iload 4, 2) := by decide +kernel
theorem dL_put_9 : decode cL_put 9 = .ok (.invokevirtual 23, 3) := by decide +kernel
theorem dL_put_12 : decode cL_put 12 = .ok (.i2l, 1) := by decide +kernel
theorem dL_put_13 : decode cL_put 13 = .ok (.lastore, 1) := by decide +kernel
theorem dL_put_14 : decode cL_put 14 = .ok (.goto 7, 3) := by decide +kernel
theorem dL_put_17 : decode cL_put 17 = .ok (.astore 6, 2) := by decide +kernel
theorem dL_put_19 : decode cL_put 19 = .ok (.iconst 1, 1) := by decide +kernel
theorem dL_put_20 : decode cL_put 20 = .ok (.ireturn, 1) := by decide +kernel
theorem dL_put_21 : decode cL_put 21 = .ok (.iconst 0, 1) := by decide +kernel
theorem dL_put_22 : decode cL_put 22 = .ok (.ireturn, 1) := by decide +kernel
theorem dL_tear_0 : decode cL_tear 0 = .ok (.aload_n 3, 1) := by decide +kernel
theorem dL_tear_1 : decode cL_tear 1 = .ok (.iconst 0, 1) := by decide +kernel
theorem dL_tear_2 : decode cL_tear 2 = .ok (.aload_n 0, 1) := by decide +kernel
theorem dL_tear_3 : decode cL_tear 3 = .ok (.iload_n 1, 1) := by decide +kernel
theorem dL_tear_4 : decode cL_tear 4 = .ok (.iload_n 2, 1) := by decide +kernel
theorem dL_tear_5 : decode cL_tear 5 = .ok (.invokevirtual 27, 3) := by decide +kernel
theorem dL_tear_8 : decode cL_tear 8 = .ok (.i2l, 1) := by decide +kernel
theorem dL_tear_9 : decode cL_tear 9 = .ok (.lastore, 1) := by decide +kernel
theorem dL_tear_10 : decode cL_tear 10 = .ok (.goto 7, 3) := by decide +kernel
theorem dL_tear_13 : decode cL_tear 13 = .ok (.astore 4, 2) := by decide +kernel
theorem dL_tear_15 : decode cL_tear 15 = .ok (.iconst 1, 1) := by decide +kernel
theorem dL_tear_16 : decode cL_tear 16 = .ok (.ireturn, 1) := by decide +kernel
theorem dL_tear_17 : decode cL_tear 17 = .ok (.iconst 0, 1) := by decide +kernel
theorem dL_tear_18 : decode cL_tear 18 = .ok (.ireturn, 1) := by decide +kernel
theorem dL_word_0 : decode cL_word 0 = .ok (.aload_n 3, 1) := by decide +kernel
theorem dL_word_1 : decode cL_word 1 = .ok (.iconst 0, 1) := by decide +kernel
theorem dL_word_2 : decode cL_word 2 = .ok (.aload_n 0, 1) := by decide +kernel
theorem dL_word_3 : decode cL_word 3 = .ok (.iload_n 1, 1) := by decide +kernel
theorem dL_word_4 : decode cL_word 4 = .ok (.iload_n 2, 1) := by decide +kernel
theorem dL_word_5 : decode cL_word 5 = .ok (.invokevirtual 31, 3) := by decide +kernel
theorem dL_word_8 : decode cL_word 8 = .ok (.i2l, 1) := by decide +kernel
theorem dL_word_9 : decode cL_word 9 = .ok (.lastore, 1) := by decide +kernel
theorem dL_word_10 : decode cL_word 10 = .ok (.goto 7, 3) := by decide +kernel
theorem dL_word_13 : decode cL_word 13 = .ok (.astore 4, 2) := by decide +kernel
theorem dL_word_15 : decode cL_word 15 = .ok (.iconst 1, 1) := by decide +kernel
theorem dL_word_16 : decode cL_word 16 = .ok (.ireturn, 1) := by decide +kernel
theorem dL_word_17 : decode cL_word 17 = .ok (.iconst 0, 1) := by decide +kernel
theorem dL_word_18 : decode cL_word 18 = .ok (.ireturn, 1) := by decide +kernel
theorem dL_letter_0 : decode cL_letter 0 = .ok (.aload 4, 2) := by decide +kernel
theorem dL_letter_2 : decode cL_letter 2 = .ok (.iconst 0, 1) := by decide +kernel
theorem dL_letter_3 : decode cL_letter 3 = .ok (.aload_n 0, 1) := by decide +kernel
theorem dL_letter_4 : decode cL_letter 4 = .ok (.iload_n 1, 1) := by decide +kernel
theorem dL_letter_5 : decode cL_letter 5 = .ok (.iload_n 2, 1) := by decide +kernel
theorem dL_letter_6 : decode cL_letter 6 = .ok (.iload_n 3, 1) := by decide +kernel
theorem dL_letter_7 : decode cL_letter 7 = .ok (.invokevirtual 34, 3) := by decide +kernel
theorem dL_letter_10 : decode cL_letter 10 = .ok (.i2l, 1) := by decide +kernel
theorem dL_letter_11 : decode cL_letter 11 = .ok (.lastore, 1) := by decide +kernel
theorem dL_letter_12 : decode cL_letter 12 = .ok (.goto 7, 3) := by decide +kernel
theorem dL_letter_15 : decode cL_letter 15 = .ok (.astore 5, 2) := by decide +kernel
theorem dL_letter_17 : decode cL_letter 17 = .ok (.iconst 1, 1) := by decide +kernel
theorem dL_letter_18 : decode cL_letter 18 = .ok (.ireturn, 1) := by decide +kernel
theorem dL_letter_19 : decode cL_letter 19 = .ok (.iconst 0, 1) := by decide +kernel
theorem dL_letter_20 : decode cL_letter 20 = .ok (.ireturn, 1) := by decide +kernel
theorem dL_law_0 : decode cL_law 0 = .ok (.aload 4, 2) := by decide +kernel
theorem dL_law_2 : decode cL_law 2 = .ok (.iconst 0, 1) := by decide +kernel
theorem dL_law_3 : decode cL_law 3 = .ok (.aload_n 0, 1) := by decide +kernel
theorem dL_law_4 : decode cL_law 4 = .ok (.iload_n 1, 1) := by decide +kernel
theorem dL_law_5 : decode cL_law 5 = .ok (.iload_n 2, 1) := by decide +kernel
theorem dL_law_6 : decode cL_law 6 = .ok (.iload_n 3, 1) := by decide +kernel
theorem dL_law_7 : decode cL_law 7 = .ok (.invokevirtual 37, 3) := by decide +kernel
theorem dL_law_10 : decode cL_law 10 = .ok (.i2l, 1) := by decide +kernel
theorem dL_law_11 : decode cL_law 11 = .ok (.lastore, 1) := by decide +kernel
theorem dL_law_12 : decode cL_law 12 = .ok (.goto 11, 3) := by decide +kernel
theorem dL_law_15 : decode cL_law 15 = .ok (.astore 5, 2) := by decide +kernel
theorem dL_law_17 : decode cL_law 17 = .ok (.iconst 1, 1) := by decide +kernel
theorem dL_law_18 : decode cL_law 18 = .ok (.ireturn, 1) := by decide +kernel
theorem dL_law_19 : decode cL_law 19 = .ok (.astore 5, 2) := by decide +kernel
theorem dL_law_21 : decode cL_law 21 = .ok (.iconst 2, 1) := by decide +kernel
theorem dL_law_22 : decode cL_law 22 = .ok (.ireturn, 1) := by decide +kernel
theorem dL_law_23 : decode cL_law 23 = .ok (.iconst 0, 1) := by decide +kernel
theorem dL_law_24 : decode cL_law 24 = .ok (.ireturn, 1) := by decide +kernel
theorem dL_power_0 : decode cL_power 0 = .ok (.aload 4, 2) := by decide +kernel
theorem dL_power_2 : decode cL_power 2 = .ok (.iconst 0, 1) := by decide +kernel
theorem dL_power_3 : decode cL_power 3 = .ok (.aload_n 0, 1) := by decide +kernel
theorem dL_power_4 : decode cL_power 4 = .ok (.iload_n 1, 1) := by decide +kernel
theorem dL_power_5 : decode cL_power 5 = .ok (.iload_n 2, 1) := by decide +kernel
theorem dL_power_6 : decode cL_power 6 = .ok (.iload_n 3, 1) := by decide +kernel
theorem dL_power_7 : decode cL_power 7 = .ok (.invokevirtual 40, 3) := by decide +kernel
theorem dL_power_10 : decode cL_power 10 = .ok (.i2l, 1) := by decide +kernel
theorem dL_power_11 : decode cL_power 11 = .ok (.lastore, 1) := by decide +kernel
theorem dL_power_12 : decode cL_power 12 = .ok (.goto 11, 3) := by decide +kernel
theorem dL_power_15 : decode cL_power 15 = .ok (.astore 5, 2) := by decide +kernel
theorem dL_power_17 : decode cL_power 17 = .ok (.iconst 1, 1) := by decide +kernel
theorem dL_power_18 : decode cL_power 18 = .ok (.ireturn, 1) := by decide +kernel
theorem dL_power_19 : decode cL_power 19 = .ok (.astore 5, 2) := by decide +kernel
theorem dL_power_21 : decode cL_power 21 = .ok (.iconst 2, 1) := by decide +kernel
theorem dL_power_22 : decode cL_power 22 = .ok (.ireturn, 1) := by decide +kernel
theorem dL_power_23 : decode cL_power 23 = .ok (.iconst 0, 1) := by decide +kernel
theorem dL_power_24 : decode cL_power 24 = .ok (.ireturn, 1) := by decide +kernel
theorem dL_run_0 : decode cL_run 0 = .ok (.aload 5, 2) := by decide +kernel
theorem dL_run_2 : decode cL_run 2 = .ok (.iconst 0, 1) := by decide +kernel
theorem dL_run_3 : decode cL_run 3 = .ok (.aload_n 0, 1) := by decide +kernel
theorem dL_run_4 : decode cL_run 4 = .ok (.iload_n 1, 1) := by decide +kernel
theorem dL_run_5 : decode cL_run 5 = .ok (.iload_n 2, 1) := by decide +kernel
theorem dL_run_6 : decode cL_run 6 = .ok (.iload_n 3, 1) := by decide +kernel
theorem dL_run_7 : decode cL_run 7 = .ok (.iload 4, 2) := by decide +kernel
theorem dL_run_9 : decode cL_run 9 = .ok (.invokevirtual 43, 3) := by decide +kernel
theorem dL_run_12 : decode cL_run 12 = .ok (.i2l, 1) := by decide +kernel
theorem dL_run_13 : decode cL_run 13 = .ok (.lastore, 1) := by decide +kernel
theorem dL_run_14 : decode cL_run 14 = .ok (.goto 11, 3) := by decide +kernel
theorem dL_run_17 : decode cL_run 17 = .ok (.astore 6, 2) := by decide +kernel
theorem dL_run_19 : decode cL_run 19 = .ok (.iconst 1, 1) := by decide +kernel
theorem dL_run_20 : decode cL_run 20 = .ok (.ireturn, 1) := by decide +kernel
theorem dL_run_21 : decode cL_run 21 = .ok (.astore 6, 2) := by decide +kernel
theorem dL_run_23 : decode cL_run 23 = .ok (.iconst 2, 1) := by decide +kernel
theorem dL_run_24 : decode cL_run 24 = .ok (.ireturn, 1) := by decide +kernel
theorem dL_run_25 : decode cL_run 25 = .ok (.iconst 0, 1) := by decide +kernel
theorem dL_run_26 : decode cL_run 26 = .ok (.ireturn, 1) := by decide +kernel
theorem dL_clash_0 : decode cL_clash 0 = .ok (.aload 5, 2) := by decide +kernel
theorem dL_clash_2 : decode cL_clash 2 = .ok (.iconst 0, 1) := by decide +kernel
theorem dL_clash_3 : decode cL_clash 3 = .ok (.aload_n 0, 1) := by decide +kernel
theorem dL_clash_4 : decode cL_clash 4 = .ok (.iload_n 1, 1) := by decide +kernel
theorem dL_clash_5 : decode cL_clash 5 = .ok (.iload_n 2, 1) := by decide +kernel
theorem dL_clash_6 : decode cL_clash 6 = .ok (.iload_n 3, 1) := by decide +kernel
theorem dL_clash_7 : decode cL_clash 7 = .ok (.iload 4, 2) := by decide +kernel
theorem dL_clash_9 : decode cL_clash 9 = .ok (.invokevirtual 46, 3) := by decide +kernel
theorem dL_clash_12 : decode cL_clash 12 = .ok (.i2l, 1) := by decide +kernel
theorem dL_clash_13 : decode cL_clash 13 = .ok (.lastore, 1) := by decide +kernel
theorem dL_clash_14 : decode cL_clash 14 = .ok (.goto 11, 3) := by decide +kernel
theorem dL_clash_17 : decode cL_clash 17 = .ok (.astore 6, 2) := by decide +kernel
theorem dL_clash_19 : decode cL_clash 19 = .ok (.iconst 1, 1) := by decide +kernel
theorem dL_clash_20 : decode cL_clash 20 = .ok (.ireturn, 1) := by decide +kernel
theorem dL_clash_21 : decode cL_clash 21 = .ok (.astore 6, 2) := by decide +kernel
theorem dL_clash_23 : decode cL_clash 23 = .ok (.iconst 2, 1) := by decide +kernel
theorem dL_clash_24 : decode cL_clash 24 = .ok (.ireturn, 1) := by decide +kernel
theorem dL_clash_25 : decode cL_clash 25 = .ok (.iconst 0, 1) := by decide +kernel
theorem dL_clash_26 : decode cL_clash 26 = .ok (.ireturn, 1) := by decide +kernel
theorem dL_many_0 : decode cL_many 0 = .ok (.aload 4, 2) := by decide +kernel
theorem dL_many_2 : decode cL_many 2 = .ok (.iconst 0, 1) := by decide +kernel
theorem dL_many_3 : decode cL_many 3 = .ok (.aload_n 0, 1) := by decide +kernel
theorem dL_many_4 : decode cL_many 4 = .ok (.iload_n 1, 1) := by decide +kernel
theorem dL_many_5 : decode cL_many 5 = .ok (.iload_n 2, 1) := by decide +kernel
theorem dL_many_6 : decode cL_many 6 = .ok (.iload_n 3, 1) := by decide +kernel
theorem dL_many_7 : decode cL_many 7 = .ok (.invokevirtual 49, 3) := by decide +kernel
theorem dL_many_10 : decode cL_many 10 = .ok (.i2l, 1) := by decide +kernel
theorem dL_many_11 : decode cL_many 11 = .ok (.lastore, 1) := by decide +kernel
theorem dL_many_12 : decode cL_many 12 = .ok (.goto 7, 3) := by decide +kernel
theorem dL_many_15 : decode cL_many 15 = .ok (.astore 5, 2) := by decide +kernel
theorem dL_many_17 : decode cL_many 17 = .ok (.iconst 1, 1) := by decide +kernel
theorem dL_many_18 : decode cL_many 18 = .ok (.ireturn, 1) := by decide +kernel
theorem dL_many_19 : decode cL_many 19 = .ok (.iconst 0, 1) := by decide +kernel
theorem dL_many_20 : decode cL_many 20 = .ok (.ireturn, 1) := by decide +kernel
theorem dL_find_0 : decode cL_find 0 = .ok (.aload 6, 2) := by decide +kernel
theorem dL_find_2 : decode cL_find 2 = .ok (.iconst 0, 1) := by decide +kernel
theorem dL_find_3 : decode cL_find 3 = .ok (.aload_n 0, 1) := by decide +kernel
theorem dL_find_4 : decode cL_find 4 = .ok (.iload_n 1, 1) := by decide +kernel
theorem dL_find_5 : decode cL_find 5 = .ok (.iload_n 2, 1) := by decide +kernel
theorem dL_find_6 : decode cL_find 6 = .ok (.iload_n 3, 1) := by decide +kernel
theorem dL_find_7 : decode cL_find 7 = .ok (.iload 4, 2) := by decide +kernel
theorem dL_find_9 : decode cL_find 9 = .ok (.iload 5, 2) := by decide +kernel
theorem dL_find_11 : decode cL_find 11 = .ok (.invokevirtual 52, 3) := by decide +kernel
theorem dL_find_14 : decode cL_find 14 = .ok (.i2l, 1) := by decide +kernel
theorem dL_find_15 : decode cL_find 15 = .ok (.lastore, 1) := by decide +kernel
theorem dL_find_16 : decode cL_find 16 = .ok (.goto 11, 3) := by decide +kernel
theorem dL_find_19 : decode cL_find 19 = .ok (.astore 7, 2) := by decide +kernel
theorem dL_find_21 : decode cL_find 21 = .ok (.iconst 1, 1) := by decide +kernel
theorem dL_find_22 : decode cL_find 22 = .ok (.ireturn, 1) := by decide +kernel
theorem dL_find_23 : decode cL_find 23 = .ok (.astore 7, 2) := by decide +kernel
theorem dL_find_25 : decode cL_find 25 = .ok (.iconst 2, 1) := by decide +kernel
theorem dL_find_26 : decode cL_find 26 = .ok (.ireturn, 1) := by decide +kernel
theorem dL_find_27 : decode cL_find 27 = .ok (.iconst 0, 1) := by decide +kernel
theorem dL_find_28 : decode cL_find 28 = .ok (.ireturn, 1) := by decide +kernel
theorem dL_rank_0 : decode cL_rank 0 = .ok (.aload 5, 2) := by decide +kernel
theorem dL_rank_2 : decode cL_rank 2 = .ok (.iconst 0, 1) := by decide +kernel
theorem dL_rank_3 : decode cL_rank 3 = .ok (.aload_n 0, 1) := by decide +kernel
theorem dL_rank_4 : decode cL_rank 4 = .ok (.iload_n 1, 1) := by decide +kernel
theorem dL_rank_5 : decode cL_rank 5 = .ok (.iload_n 2, 1) := by decide +kernel
theorem dL_rank_6 : decode cL_rank 6 = .ok (.iload_n 3, 1) := by decide +kernel
theorem dL_rank_7 : decode cL_rank 7 = .ok (.iload 4, 2) := by decide +kernel
theorem dL_rank_9 : decode cL_rank 9 = .ok (.invokevirtual 56, 3) := by decide +kernel
theorem dL_rank_12 : decode cL_rank 12 = .ok (.i2l, 1) := by decide +kernel
theorem dL_rank_13 : decode cL_rank 13 = .ok (.lastore, 1) := by decide +kernel
theorem dL_rank_14 : decode cL_rank 14 = .ok (.goto 11, 3) := by decide +kernel
theorem dL_rank_17 : decode cL_rank 17 = .ok (.astore 6, 2) := by decide +kernel
theorem dL_rank_19 : decode cL_rank 19 = .ok (.iconst 1, 1) := by decide +kernel
theorem dL_rank_20 : decode cL_rank 20 = .ok (.ireturn, 1) := by decide +kernel
theorem dL_rank_21 : decode cL_rank 21 = .ok (.astore 6, 2) := by decide +kernel
theorem dL_rank_23 : decode cL_rank 23 = .ok (.iconst 2, 1) := by decide +kernel
theorem dL_rank_24 : decode cL_rank 24 = .ok (.ireturn, 1) := by decide +kernel
theorem dL_rank_25 : decode cL_rank 25 = .ok (.iconst 0, 1) := by decide +kernel
theorem dL_rank_26 : decode cL_rank 26 = .ok (.ireturn, 1) := by decide +kernel
theorem dL_longest_0 : decode cL_longest 0 = .ok (.aload_n 3, 1) := by decide +kernel
theorem dL_longest_1 : decode cL_longest 1 = .ok (.iconst 0, 1) := by decide +kernel
theorem dL_longest_2 : decode cL_longest 2 = .ok (.aload_n 0, 1) := by decide +kernel
theorem dL_longest_3 : decode cL_longest 3 = .ok (.iload_n 1, 1) := by decide +kernel
theorem dL_longest_4 : decode cL_longest 4 = .ok (.iload_n 2, 1) := by decide +kernel
theorem dL_longest_5 : decode cL_longest 5 = .ok (.invokevirtual 59, 3) := by decide +kernel
theorem dL_longest_8 : decode cL_longest 8 = .ok (.i2l, 1) := by decide +kernel
theorem dL_longest_9 : decode cL_longest 9 = .ok (.lastore, 1) := by decide +kernel
theorem dL_longest_10 : decode cL_longest 10 = .ok (.goto 7, 3) := by decide +kernel
theorem dL_longest_13 : decode cL_longest 13 = .ok (.astore 4, 2) := by decide +kernel
theorem dL_longest_15 : decode cL_longest 15 = .ok (.iconst 1, 1) := by decide +kernel
theorem dL_longest_16 : decode cL_longest 16 = .ok (.ireturn, 1) := by decide +kernel
theorem dL_longest_17 : decode cL_longest 17 = .ok (.iconst 0, 1) := by decide +kernel
theorem dL_longest_18 : decode cL_longest 18 = .ok (.ireturn, 1) := by decide +kernel
theorem dL_map_0 : decode cL_map 0 = .ok (.aload 5, 2) := by decide +kernel
theorem dL_map_2 : decode cL_map 2 = .ok (.iconst 0, 1) := by decide +kernel
theorem dL_map_3 : decode cL_map 3 = .ok (.aload_n 0, 1) := by decide +kernel
theorem dL_map_4 : decode cL_map 4 = .ok (.iload_n 1, 1) := by decide +kernel
theorem dL_map_5 : decode cL_map 5 = .ok (.iload_n 2, 1) := by decide +kernel
theorem dL_map_6 : decode cL_map 6 = .ok (.iload_n 3, 1) := by decide +kernel
theorem dL_map_7 : decode cL_map 7 = .ok (.iload 4, 2) := by decide +kernel
theorem dL_map_9 : decode cL_map 9 = .ok (.invokevirtual 62, 3) := by decide +kernel
theorem dL_map_12 : decode cL_map 12 = .ok (.i2l, 1) := by decide +kernel
theorem dL_map_13 : decode cL_map 13 = .ok (.lastore, 1) := by decide +kernel
theorem dL_map_14 : decode cL_map 14 = .ok (.goto 11, 3) := by decide +kernel
theorem dL_map_17 : decode cL_map 17 = .ok (.astore 6, 2) := by decide +kernel
theorem dL_map_19 : decode cL_map 19 = .ok (.iconst 1, 1) := by decide +kernel
theorem dL_map_20 : decode cL_map 20 = .ok (.ireturn, 1) := by decide +kernel
theorem dL_map_21 : decode cL_map 21 = .ok (.astore 6, 2) := by decide +kernel
theorem dL_map_23 : decode cL_map 23 = .ok (.iconst 2, 1) := by decide +kernel
theorem dL_map_24 : decode cL_map 24 = .ok (.ireturn, 1) := by decide +kernel
theorem dL_map_25 : decode cL_map 25 = .ok (.iconst 0, 1) := by decide +kernel
theorem dL_map_26 : decode cL_map 26 = .ok (.ireturn, 1) := by decide +kernel
theorem dL_image_0 : decode cL_image 0 = .ok (.aload 5, 2) := by decide +kernel
theorem dL_image_2 : decode cL_image 2 = .ok (.iconst 0, 1) := by decide +kernel
theorem dL_image_3 : decode cL_image 3 = .ok (.aload_n 0, 1) := by decide +kernel
theorem dL_image_4 : decode cL_image 4 = .ok (.iload_n 1, 1) := by decide +kernel
theorem dL_image_5 : decode cL_image 5 = .ok (.iload_n 2, 1) := by decide +kernel
theorem dL_image_6 : decode cL_image 6 = .ok (.iload_n 3, 1) := by decide +kernel
theorem dL_image_7 : decode cL_image 7 = .ok (.iload 4, 2) := by decide +kernel
theorem dL_image_9 : decode cL_image 9 = .ok (.invokevirtual 65, 3) := by decide +kernel
theorem dL_image_12 : decode cL_image 12 = .ok (.i2l, 1) := by decide +kernel
theorem dL_image_13 : decode cL_image 13 = .ok (.lastore, 1) := by decide +kernel
theorem dL_image_14 : decode cL_image 14 = .ok (.goto 11, 3) := by decide +kernel
theorem dL_image_17 : decode cL_image 17 = .ok (.astore 6, 2) := by decide +kernel
theorem dL_image_19 : decode cL_image 19 = .ok (.iconst 1, 1) := by decide +kernel
theorem dL_image_20 : decode cL_image 20 = .ok (.ireturn, 1) := by decide +kernel
theorem dL_image_21 : decode cL_image 21 = .ok (.astore 6, 2) := by decide +kernel
theorem dL_image_23 : decode cL_image 23 = .ok (.iconst 2, 1) := by decide +kernel
theorem dL_image_24 : decode cL_image 24 = .ok (.ireturn, 1) := by decide +kernel
theorem dL_image_25 : decode cL_image 25 = .ok (.iconst 0, 1) := by decide +kernel
theorem dL_image_26 : decode cL_image 26 = .ok (.ireturn, 1) := by decide +kernel
theorem dL_keeps_0 : decode cL_keeps 0 = .ok (.aload_n 3, 1) := by decide +kernel
theorem dL_keeps_1 : decode cL_keeps 1 = .ok (.iconst 0, 1) := by decide +kernel
theorem dL_keeps_2 : decode cL_keeps 2 = .ok (.aload_n 0, 1) := by decide +kernel
theorem dL_keeps_3 : decode cL_keeps 3 = .ok (.iload_n 1, 1) := by decide +kernel
theorem dL_keeps_4 : decode cL_keeps 4 = .ok (.iload_n 2, 1) := by decide +kernel
theorem dL_keeps_5 : decode cL_keeps 5 = .ok (.invokevirtual 70, 3) := by decide +kernel
theorem dL_keeps_8 : decode cL_keeps 8 = .ok (.i2l, 1) := by decide +kernel
theorem dL_keeps_9 : decode cL_keeps 9 = .ok (.lastore, 1) := by decide +kernel
theorem dL_keeps_10 : decode cL_keeps 10 = .ok (.goto 11, 3) := by decide +kernel
theorem dL_keeps_13 : decode cL_keeps 13 = .ok (.astore 4, 2) := by decide +kernel
theorem dL_keeps_15 : decode cL_keeps 15 = .ok (.iconst 1, 1) := by decide +kernel
theorem dL_keeps_16 : decode cL_keeps 16 = .ok (.ireturn, 1) := by decide +kernel
theorem dL_keeps_17 : decode cL_keeps 17 = .ok (.astore 4, 2) := by decide +kernel
theorem dL_keeps_19 : decode cL_keeps 19 = .ok (.iconst 2, 1) := by decide +kernel
theorem dL_keeps_20 : decode cL_keeps 20 = .ok (.ireturn, 1) := by decide +kernel
theorem dL_keeps_21 : decode cL_keeps 21 = .ok (.iconst 0, 1) := by decide +kernel
theorem dL_keeps_22 : decode cL_keeps 22 = .ok (.ireturn, 1) := by decide +kernel
theorem dL_at_0 : decode cL_at 0 = .ok (.aload 4, 2) := by decide +kernel
theorem dL_at_2 : decode cL_at 2 = .ok (.iconst 0, 1) := by decide +kernel
theorem dL_at_3 : decode cL_at 3 = .ok (.aload_n 0, 1) := by decide +kernel
theorem dL_at_4 : decode cL_at 4 = .ok (.iload_n 1, 1) := by decide +kernel
theorem dL_at_5 : decode cL_at 5 = .ok (.iload_n 2, 1) := by decide +kernel
theorem dL_at_6 : decode cL_at 6 = .ok (.iload_n 3, 1) := by decide +kernel
theorem dL_at_7 : decode cL_at 7 = .ok (.invokevirtual 73, 3) := by decide +kernel
theorem dL_at_10 : decode cL_at 10 = .ok (.i2l, 1) := by decide +kernel
theorem dL_at_11 : decode cL_at 11 = .ok (.lastore, 1) := by decide +kernel
theorem dL_at_12 : decode cL_at 12 = .ok (.goto 7, 3) := by decide +kernel
theorem dL_at_15 : decode cL_at 15 = .ok (.astore 5, 2) := by decide +kernel
theorem dL_at_17 : decode cL_at 17 = .ok (.iconst 1, 1) := by decide +kernel
theorem dL_at_18 : decode cL_at 18 = .ok (.ireturn, 1) := by decide +kernel
theorem dL_at_19 : decode cL_at 19 = .ok (.iconst 0, 1) := by decide +kernel
theorem dL_at_20 : decode cL_at 20 = .ok (.ireturn, 1) := by decide +kernel
theorem dL_shape_0 : decode cL_shape 0 = .ok (.aload_n 3, 1) := by decide +kernel
theorem dL_shape_1 : decode cL_shape 1 = .ok (.iconst 0, 1) := by decide +kernel
theorem dL_shape_2 : decode cL_shape 2 = .ok (.aload_n 0, 1) := by decide +kernel
theorem dL_shape_3 : decode cL_shape 3 = .ok (.iload_n 1, 1) := by decide +kernel
theorem dL_shape_4 : decode cL_shape 4 = .ok (.iload_n 2, 1) := by decide +kernel
theorem dL_shape_5 : decode cL_shape 5 = .ok (.invokevirtual 76, 3) := by decide +kernel
theorem dL_shape_8 : decode cL_shape 8 = .ok (.i2l, 1) := by decide +kernel
theorem dL_shape_9 : decode cL_shape 9 = .ok (.lastore, 1) := by decide +kernel
theorem dL_shape_10 : decode cL_shape 10 = .ok (.goto 11, 3) := by decide +kernel
theorem dL_shape_13 : decode cL_shape 13 = .ok (.astore 4, 2) := by decide +kernel
theorem dL_shape_15 : decode cL_shape 15 = .ok (.iconst 1, 1) := by decide +kernel
theorem dL_shape_16 : decode cL_shape 16 = .ok (.ireturn, 1) := by decide +kernel
theorem dL_shape_17 : decode cL_shape 17 = .ok (.astore 4, 2) := by decide +kernel
theorem dL_shape_19 : decode cL_shape 19 = .ok (.iconst 2, 1) := by decide +kernel
theorem dL_shape_20 : decode cL_shape 20 = .ok (.ireturn, 1) := by decide +kernel
theorem dL_shape_21 : decode cL_shape 21 = .ok (.iconst 0, 1) := by decide +kernel
theorem dL_shape_22 : decode cL_shape 22 = .ok (.ireturn, 1) := by decide +kernel
theorem dL_law__0 : decode cL_law_ 0 = .ok (.new 8, 3) := by decide +kernel
theorem dL_law__3 : decode cL_law_ 3 = .ok (.dup, 1) := by decide +kernel
theorem dL_law__4 : decode cL_law_ 4 = .ok (.invokespecial 79, 3) := by decide +kernel
theorem dL_law__7 : decode cL_law_ 7 = .ok (.astore_n 1, 1) := by decide +kernel
theorem dL_law__8 : decode cL_law_ 8 = .ok (.new 80, 3) := by decide +kernel
theorem dL_law__11 : decode cL_law_ 11 = .ok (.dup, 1) := by decide +kernel
theorem dL_law__12 : decode cL_law_ 12 = .ok (.invokespecial 82, 3) := by decide +kernel
theorem dL_law__15 : decode cL_law_ 15 = .ok (.astore_n 2, 1) := by decide +kernel
theorem dL_law__16 : decode cL_law_ 16 = .ok (.iconst 1, 1) := by decide +kernel
theorem dL_law__17 : decode cL_law_ 17 = .ok (.newarray .long, 2) := by decide +kernel
theorem dL_law__19 : decode cL_law_ 19 = .ok (.astore_n 3, 1) := by decide +kernel
theorem dL_law__20 : decode cL_law_ 20 = .ok (.iconst 0, 1) := by decide +kernel
theorem dL_law__21 : decode cL_law_ 21 = .ok (.istore 4, 2) := by decide +kernel
theorem dL_law__23 : decode cL_law_ 23 = .ok (.iload 4, 2) := by decide +kernel
theorem dL_law__25 : decode cL_law_ 25 = .ok (.aload_n 0, 1) := by decide +kernel
theorem dL_law__26 : decode cL_law_ 26 = .ok (.arraylength, 1) := by decide +kernel
theorem dL_law__27 : decode cL_law_ 27 = .ok (.bipush 6, 2) := by decide +kernel
theorem dL_law__29 : decode cL_law_ 29 = .ok (.isub, 1) := by decide +kernel
theorem dL_law__30 : decode cL_law_ 30 = .ok (.if_icmp .gt 1669, 3) := by decide +kernel
theorem dL_law__33 : decode cL_law_ 33 = .ok (.aload_n 0, 1) := by decide +kernel
theorem dL_law__34 : decode cL_law_ 34 = .ok (.iload 4, 2) := by decide +kernel
theorem dL_law__36 : decode cL_law_ 36 = .ok (.iaload, 1) := by decide +kernel
theorem dL_law__37 : decode cL_law_ 37 = .ok (.bipush 31, 2) := by decide +kernel
theorem dL_law__39 : decode cL_law_ 39 = .ok (.iand, 1) := by decide +kernel
theorem dL_law__40 : decode cL_law_ 40 = .ok (.tableswitch 1653 0 19 #[96, 152, 232, 324, 392, 460, 540, 620, 645, 725, 817, 909, 989, 1093, 1185, 1253, 1345, 1437, 1505, 1585], 96) := by decide +kernel
theorem dL_law__136 : decode cL_law_ 136 = .ok (.aload_n 1, 1) := by decide +kernel
theorem dL_law__137 : decode cL_law_ 137 = .ok (.aload_n 0, 1) := by decide +kernel
theorem dL_law__138 : decode cL_law_ 138 = .ok (.iload 4, 2) := by decide +kernel
theorem dL_law__140 : decode cL_law_ 140 = .ok (.iconst 1, 1) := by decide +kernel
theorem dL_law__141 : decode cL_law_ 141 = .ok (.iadd, 1) := by decide +kernel
theorem dL_law__142 : decode cL_law_ 142 = .ok (.iaload, 1) := by decide +kernel
theorem dL_law__143 : decode cL_law_ 143 = .ok (.aload_n 3, 1) := by decide +kernel
theorem dL_law__144 : decode cL_law_ 144 = .ok (.invokestatic 83, 3) := by decide +kernel
theorem dL_law__147 : decode cL_law_ 147 = .ok (.istore 5, 2) := by decide +kernel
theorem dL_law__149 : decode cL_law_ 149 = .ok (.aload_n 2, 1) := by decide +kernel
theorem dL_law__150 : decode cL_law_ 150 = .ok (.aload_n 0, 1) := by decide +kernel
theorem dL_law__151 : decode cL_law_ 151 = .ok (.iload 4, 2) := by decide +kernel
theorem dL_law__153 : decode cL_law_ 153 = .ok (.iconst 1, 1) := by decide +kernel
theorem dL_law__154 : decode cL_law_ 154 = .ok (.iadd, 1) := by decide +kernel
theorem dL_law__155 : decode cL_law_ 155 = .ok (.iaload, 1) := by decide +kernel
theorem dL_law__156 : decode cL_law_ 156 = .ok (.invokevirtual 88, 3) := by decide +kernel
theorem dL_law__159 : decode cL_law_ 159 = .ok (.istore 6, 2) := by decide +kernel
theorem dL_law__161 : decode cL_law_ 161 = .ok (.aload_n 2, 1) := by decide +kernel
theorem dL_law__162 : decode cL_law_ 162 = .ok (.invokevirtual 89, 3) := by decide +kernel
theorem dL_law__165 : decode cL_law_ 165 = .ok (.iload 5, 2) := by decide +kernel
theorem dL_law__167 : decode cL_law_ 167 = .ok (.if_icmp .eq 5, 3) := by decide +kernel
theorem dL_law__170 : decode cL_law_ 170 = .ok (.iconst 0, 1) := by decide +kernel
theorem dL_law__171 : decode cL_law_ 171 = .ok (.ireturn, 1) := by decide +kernel
theorem dL_law__172 : decode cL_law_ 172 = .ok (.iload 5, 2) := by decide +kernel
theorem dL_law__174 : decode cL_law_ 174 = .ok (.ifCond .ne 15, 3) := by decide +kernel
theorem dL_law__177 : decode cL_law_ 177 = .ok (.aload_n 3, 1) := by decide +kernel
theorem dL_law__178 : decode cL_law_ 178 = .ok (.iconst 0, 1) := by decide +kernel
theorem dL_law__179 : decode cL_law_ 179 = .ok (.laload, 1) := by decide +kernel
theorem dL_law__180 : decode cL_law_ 180 = .ok (.iload 6, 2) := by decide +kernel
theorem dL_law__182 : decode cL_law_ 182 = .ok (.i2l, 1) := by decide +kernel
theorem dL_law__183 : decode cL_law_ 183 = .ok (.lcmp, 1) := by decide +kernel
theorem dL_law__184 : decode cL_law_ 184 = .ok (.ifCond .eq 5, 3) := by decide +kernel
theorem dL_law__187 : decode cL_law_ 187 = .ok (.iconst 0, 1) := by decide +kernel
theorem dL_law__188 : decode cL_law_ 188 = .ok (.ireturn, 1) := by decide +kernel
theorem dL_law__189 : decode cL_law_ 189 = .ok (.goto 1504, 3) := by decide +kernel
theorem dL_law__192 : decode cL_law_ 192 = .ok (.aload_n 1, 1) := by decide +kernel
theorem dL_law__193 : decode cL_law_ 193 = .ok (.aload_n 0, 1) := by decide +kernel
theorem dL_law__194 : decode cL_law_ 194 = .ok (.iload 4, 2) := by decide +kernel
theorem dL_law__196 : decode cL_law_ 196 = .ok (.iconst 1, 1) := by decide +kernel
theorem dL_law__197 : decode cL_law_ 197 = .ok (.iadd, 1) := by decide +kernel
theorem dL_law__198 : decode cL_law_ 198 = .ok (.iaload, 1) := by decide +kernel
theorem dL_law__199 : decode cL_law_ 199 = .ok (.aload_n 0, 1) := by decide +kernel
theorem dL_law__200 : decode cL_law_ 200 = .ok (.iload 4, 2) := by decide +kernel
theorem dL_law__202 : decode cL_law_ 202 = .ok (.iconst 2, 1) := by decide +kernel
theorem dL_law__203 : decode cL_law_ 203 = .ok (.iadd, 1) := by decide +kernel
theorem dL_law__204 : decode cL_law_ 204 = .ok (.iaload, 1) := by decide +kernel
theorem dL_law__205 : decode cL_law_ 205 = .ok (.aload_n 0, 1) := by decide +kernel
theorem dL_law__206 : decode cL_law_ 206 = .ok (.iload 4, 2) := by decide +kernel
theorem dL_law__208 : decode cL_law_ 208 = .ok (.iconst 3, 1) := by decide +kernel
theorem dL_law__209 : decode cL_law_ 209 = .ok (.iadd, 1) := by decide +kernel
theorem dL_law__210 : decode cL_law_ 210 = .ok (.iaload, 1) := by decide +kernel
theorem dL_law__211 : decode cL_law_ 211 = .ok (.aload_n 3, 1) := by decide +kernel
theorem dL_law__212 : decode cL_law_ 212 = .ok (.invokestatic 93, 3) := by decide +kernel
theorem dL_law__215 : decode cL_law_ 215 = .ok (.istore 5, 2) := by decide +kernel
theorem dL_law__217 : decode cL_law_ 217 = .ok (.aload_n 2, 1) := by decide +kernel
theorem dL_law__218 : decode cL_law_ 218 = .ok (.aload_n 0, 1) := by decide +kernel
theorem dL_law__219 : decode cL_law_ 219 = .ok (.iload 4, 2) := by decide +kernel
theorem dL_law__221 : decode cL_law_ 221 = .ok (.iconst 1, 1) := by decide +kernel
theorem dL_law__222 : decode cL_law_ 222 = .ok (.iadd, 1) := by decide +kernel
theorem dL_law__223 : decode cL_law_ 223 = .ok (.iaload, 1) := by decide +kernel
theorem dL_law__224 : decode cL_law_ 224 = .ok (.aload_n 0, 1) := by decide +kernel
theorem dL_law__225 : decode cL_law_ 225 = .ok (.iload 4, 2) := by decide +kernel
theorem dL_law__227 : decode cL_law_ 227 = .ok (.iconst 2, 1) := by decide +kernel
theorem dL_law__228 : decode cL_law_ 228 = .ok (.iadd, 1) := by decide +kernel
theorem dL_law__229 : decode cL_law_ 229 = .ok (.iaload, 1) := by decide +kernel
theorem dL_law__230 : decode cL_law_ 230 = .ok (.aload_n 0, 1) := by decide +kernel
theorem dL_law__231 : decode cL_law_ 231 = .ok (.iload 4, 2) := by decide +kernel
theorem dL_law__233 : decode cL_law_ 233 = .ok (.iconst 3, 1) := by decide +kernel
theorem dL_law__234 : decode cL_law_ 234 = .ok (.iadd, 1) := by decide +kernel
theorem dL_law__235 : decode cL_law_ 235 = .ok (.iaload, 1) := by decide +kernel
theorem dL_law__236 : decode cL_law_ 236 = .ok (.invokevirtual 96, 3) := by decide +kernel
theorem dL_law__239 : decode cL_law_ 239 = .ok (.istore 6, 2) := by decide +kernel
theorem dL_law__241 : decode cL_law_ 241 = .ok (.aload_n 2, 1) := by decide +kernel
theorem dL_law__242 : decode cL_law_ 242 = .ok (.invokevirtual 89, 3) := by decide +kernel
theorem dL_law__245 : decode cL_law_ 245 = .ok (.iload 5, 2) := by decide +kernel
theorem dL_law__247 : decode cL_law_ 247 = .ok (.if_icmp .eq 5, 3) := by decide +kernel
theorem dL_law__250 : decode cL_law_ 250 = .ok (.iconst 0, 1) := by decide +kernel
theorem dL_law__251 : decode cL_law_ 251 = .ok (.ireturn, 1) := by decide +kernel
theorem dL_law__252 : decode cL_law_ 252 = .ok (.iload 5, 2) := by decide +kernel
theorem dL_law__254 : decode cL_law_ 254 = .ok (.ifCond .ne 15, 3) := by decide +kernel
theorem dL_law__257 : decode cL_law_ 257 = .ok (.aload_n 3, 1) := by decide +kernel
theorem dL_law__258 : decode cL_law_ 258 = .ok (.iconst 0, 1) := by decide +kernel
theorem dL_law__259 : decode cL_law_ 259 = .ok (.laload, 1) := by decide +kernel
theorem dL_law__260 : decode cL_law_ 260 = .ok (.iload 6, 2) := by decide +kernel
theorem dL_law__262 : decode cL_law_ 262 = .ok (.i2l, 1) := by decide +kernel
theorem dL_law__263 : decode cL_law_ 263 = .ok (.lcmp, 1) := by decide +kernel
theorem dL_law__264 : decode cL_law_ 264 = .ok (.ifCond .eq 5, 3) := by decide +kernel
theorem dL_law__267 : decode cL_law_ 267 = .ok (.iconst 0, 1) := by decide +kernel
theorem dL_law__268 : decode cL_law_ 268 = .ok (.ireturn, 1) := by decide +kernel
theorem dL_law__269 : decode cL_law_ 269 = .ok (.goto 1424, 3) := by decide +kernel
theorem dL_law__272 : decode cL_law_ 272 = .ok (.aload_n 1, 1) := by decide +kernel
theorem dL_law__273 : decode cL_law_ 273 = .ok (.aload_n 0, 1) := by decide +kernel
theorem dL_law__274 : decode cL_law_ 274 = .ok (.iload 4, 2) := by decide +kernel
theorem dL_law__276 : decode cL_law_ 276 = .ok (.iconst 1, 1) := by decide +kernel
theorem dL_law__277 : decode cL_law_ 277 = .ok (.iadd, 1) := by decide +kernel
theorem dL_law__278 : decode cL_law_ 278 = .ok (.iaload, 1) := by decide +kernel
theorem dL_law__279 : decode cL_law_ 279 = .ok (.aload_n 0, 1) := by decide +kernel
theorem dL_law__280 : decode cL_law_ 280 = .ok (.iload 4, 2) := by decide +kernel
theorem dL_law__282 : decode cL_law_ 282 = .ok (.iconst 2, 1) := by decide +kernel
theorem dL_law__283 : decode cL_law_ 283 = .ok (.iadd, 1) := by decide +kernel
theorem dL_law__284 : decode cL_law_ 284 = .ok (.iaload, 1) := by decide +kernel
theorem dL_law__285 : decode cL_law_ 285 = .ok (.aload_n 0, 1) := by decide +kernel
theorem dL_law__286 : decode cL_law_ 286 = .ok (.iload 4, 2) := by decide +kernel
theorem dL_law__288 : decode cL_law_ 288 = .ok (.iconst 3, 1) := by decide +kernel
theorem dL_law__289 : decode cL_law_ 289 = .ok (.iadd, 1) := by decide +kernel
theorem dL_law__290 : decode cL_law_ 290 = .ok (.iaload, 1) := by decide +kernel
theorem dL_law__291 : decode cL_law_ 291 = .ok (.aload_n 0, 1) := by decide +kernel
theorem dL_law__292 : decode cL_law_ 292 = .ok (.iload 4, 2) := by decide +kernel
theorem dL_law__294 : decode cL_law_ 294 = .ok (.iconst 4, 1) := by decide +kernel
theorem dL_law__295 : decode cL_law_ 295 = .ok (.iadd, 1) := by decide +kernel
theorem dL_law__296 : decode cL_law_ 296 = .ok (.iaload, 1) := by decide +kernel
theorem dL_law__297 : decode cL_law_ 297 = .ok (.aload_n 3, 1) := by decide +kernel
theorem dL_law__298 : decode cL_law_ 298 = .ok (.invokestatic 97, 3) := by decide +kernel
theorem dL_law__301 : decode cL_law_ 301 = .ok (.istore 5, 2) := by decide +kernel
theorem dL_law__303 : decode cL_law_ 303 = .ok (.aload_n 2, 1) := by decide +kernel
theorem dL_law__304 : decode cL_law_ 304 = .ok (.aload_n 0, 1) := by decide +kernel
theorem dL_law__305 : decode cL_law_ 305 = .ok (.iload 4, 2) := by decide +kernel
theorem dL_law__307 : decode cL_law_ 307 = .ok (.iconst 1, 1) := by decide +kernel
theorem dL_law__308 : decode cL_law_ 308 = .ok (.iadd, 1) := by decide +kernel
theorem dL_law__309 : decode cL_law_ 309 = .ok (.iaload, 1) := by decide +kernel
theorem dL_law__310 : decode cL_law_ 310 = .ok (.aload_n 0, 1) := by decide +kernel
theorem dL_law__311 : decode cL_law_ 311 = .ok (.iload 4, 2) := by decide +kernel
theorem dL_law__313 : decode cL_law_ 313 = .ok (.iconst 2, 1) := by decide +kernel
theorem dL_law__314 : decode cL_law_ 314 = .ok (.iadd, 1) := by decide +kernel
theorem dL_law__315 : decode cL_law_ 315 = .ok (.iaload, 1) := by decide +kernel
theorem dL_law__316 : decode cL_law_ 316 = .ok (.aload_n 0, 1) := by decide +kernel
theorem dL_law__317 : decode cL_law_ 317 = .ok (.iload 4, 2) := by decide +kernel
theorem dL_law__319 : decode cL_law_ 319 = .ok (.iconst 3, 1) := by decide +kernel
theorem dL_law__320 : decode cL_law_ 320 = .ok (.iadd, 1) := by decide +kernel
theorem dL_law__321 : decode cL_law_ 321 = .ok (.iaload, 1) := by decide +kernel
theorem dL_law__322 : decode cL_law_ 322 = .ok (.aload_n 0, 1) := by decide +kernel
theorem dL_law__323 : decode cL_law_ 323 = .ok (.iload 4, 2) := by decide +kernel
theorem dL_law__325 : decode cL_law_ 325 = .ok (.iconst 4, 1) := by decide +kernel
theorem dL_law__326 : decode cL_law_ 326 = .ok (.iadd, 1) := by decide +kernel
theorem dL_law__327 : decode cL_law_ 327 = .ok (.iaload, 1) := by decide +kernel
theorem dL_law__328 : decode cL_law_ 328 = .ok (.invokevirtual 100, 3) := by decide +kernel
theorem dL_law__331 : decode cL_law_ 331 = .ok (.istore 6, 2) := by decide +kernel
theorem dL_law__333 : decode cL_law_ 333 = .ok (.aload_n 2, 1) := by decide +kernel
theorem dL_law__334 : decode cL_law_ 334 = .ok (.invokevirtual 89, 3) := by decide +kernel
theorem dL_law__337 : decode cL_law_ 337 = .ok (.iload 5, 2) := by decide +kernel
theorem dL_law__339 : decode cL_law_ 339 = .ok (.if_icmp .eq 5, 3) := by decide +kernel
theorem dL_law__342 : decode cL_law_ 342 = .ok (.iconst 0, 1) := by decide +kernel
theorem dL_law__343 : decode cL_law_ 343 = .ok (.ireturn, 1) := by decide +kernel
theorem dL_law__344 : decode cL_law_ 344 = .ok (.iload 5, 2) := by decide +kernel
theorem dL_law__346 : decode cL_law_ 346 = .ok (.ifCond .ne 15, 3) := by decide +kernel
theorem dL_law__349 : decode cL_law_ 349 = .ok (.aload_n 3, 1) := by decide +kernel
theorem dL_law__350 : decode cL_law_ 350 = .ok (.iconst 0, 1) := by decide +kernel
theorem dL_law__351 : decode cL_law_ 351 = .ok (.laload, 1) := by decide +kernel
theorem dL_law__352 : decode cL_law_ 352 = .ok (.iload 6, 2) := by decide +kernel
theorem dL_law__354 : decode cL_law_ 354 = .ok (.i2l, 1) := by decide +kernel
theorem dL_law__355 : decode cL_law_ 355 = .ok (.lcmp, 1) := by decide +kernel
theorem dL_law__356 : decode cL_law_ 356 = .ok (.ifCond .eq 5, 3) := by decide +kernel
theorem dL_law__359 : decode cL_law_ 359 = .ok (.iconst 0, 1) := by decide +kernel
theorem dL_law__360 : decode cL_law_ 360 = .ok (.ireturn, 1) := by decide +kernel
theorem dL_law__361 : decode cL_law_ 361 = .ok (.goto 1332, 3) := by decide +kernel
theorem dL_law__364 : decode cL_law_ 364 = .ok (.aload_n 1, 1) := by decide +kernel
theorem dL_law__365 : decode cL_law_ 365 = .ok (.aload_n 0, 1) := by decide +kernel
theorem dL_law__366 : decode cL_law_ 366 = .ok (.iload 4, 2) := by decide +kernel
theorem dL_law__368 : decode cL_law_ 368 = .ok (.iconst 1, 1) := by decide +kernel
theorem dL_law__369 : decode cL_law_ 369 = .ok (.iadd, 1) := by decide +kernel
theorem dL_law__370 : decode cL_law_ 370 = .ok (.iaload, 1) := by decide +kernel
theorem dL_law__371 : decode cL_law_ 371 = .ok (.aload_n 0, 1) := by decide +kernel
theorem dL_law__372 : decode cL_law_ 372 = .ok (.iload 4, 2) := by decide +kernel
theorem dL_law__374 : decode cL_law_ 374 = .ok (.iconst 2, 1) := by decide +kernel
theorem dL_law__375 : decode cL_law_ 375 = .ok (.iadd, 1) := by decide +kernel
theorem dL_law__376 : decode cL_law_ 376 = .ok (.iaload, 1) := by decide +kernel
theorem dL_law__377 : decode cL_law_ 377 = .ok (.aload_n 3, 1) := by decide +kernel
theorem dL_law__378 : decode cL_law_ 378 = .ok (.invokestatic 101, 3) := by decide +kernel
theorem dL_law__381 : decode cL_law_ 381 = .ok (.istore 5, 2) := by decide +kernel
theorem dL_law__383 : decode cL_law_ 383 = .ok (.aload_n 2, 1) := by decide +kernel
theorem dL_law__384 : decode cL_law_ 384 = .ok (.aload_n 0, 1) := by decide +kernel
theorem dL_law__385 : decode cL_law_ 385 = .ok (.iload 4, 2) := by decide +kernel
theorem dL_law__387 : decode cL_law_ 387 = .ok (.iconst 1, 1) := by decide +kernel
theorem dL_law__388 : decode cL_law_ 388 = .ok (.iadd, 1) := by decide +kernel
theorem dL_law__389 : decode cL_law_ 389 = .ok (.iaload, 1) := by decide +kernel
theorem dL_law__390 : decode cL_law_ 390 = .ok (.aload_n 0, 1) := by decide +kernel
theorem dL_law__391 : decode cL_law_ 391 = .ok (.iload 4, 2) := by decide +kernel
theorem dL_law__393 : decode cL_law_ 393 = .ok (.iconst 2, 1) := by decide +kernel
theorem dL_law__394 : decode cL_law_ 394 = .ok (.iadd, 1) := by decide +kernel
theorem dL_law__395 : decode cL_law_ 395 = .ok (.iaload, 1) := by decide +kernel
theorem dL_law__396 : decode cL_law_ 396 = .ok (.invokevirtual 104, 3) := by decide +kernel
theorem dL_law__399 : decode cL_law_ 399 = .ok (.istore 6, 2) := by decide +kernel
theorem dL_law__401 : decode cL_law_ 401 = .ok (.aload_n 2, 1) := by decide +kernel
theorem dL_law__402 : decode cL_law_ 402 = .ok (.invokevirtual 89, 3) := by decide +kernel
theorem dL_law__405 : decode cL_law_ 405 = .ok (.iload 5, 2) := by decide +kernel
theorem dL_law__407 : decode cL_law_ 407 = .ok (.if_icmp .eq 5, 3) := by decide +kernel
theorem dL_law__410 : decode cL_law_ 410 = .ok (.iconst 0, 1) := by decide +kernel
theorem dL_law__411 : decode cL_law_ 411 = .ok (.ireturn, 1) := by decide +kernel
theorem dL_law__412 : decode cL_law_ 412 = .ok (.iload 5, 2) := by decide +kernel
theorem dL_law__414 : decode cL_law_ 414 = .ok (.ifCond .ne 15, 3) := by decide +kernel
theorem dL_law__417 : decode cL_law_ 417 = .ok (.aload_n 3, 1) := by decide +kernel
theorem dL_law__418 : decode cL_law_ 418 = .ok (.iconst 0, 1) := by decide +kernel
theorem dL_law__419 : decode cL_law_ 419 = .ok (.laload, 1) := by decide +kernel
theorem dL_law__420 : decode cL_law_ 420 = .ok (.iload 6, 2) := by decide +kernel
theorem dL_law__422 : decode cL_law_ 422 = .ok (.i2l, 1) := by decide +kernel
theorem dL_law__423 : decode cL_law_ 423 = .ok (.lcmp, 1) := by decide +kernel
theorem dL_law__424 : decode cL_law_ 424 = .ok (.ifCond .eq 5, 3) := by decide +kernel
theorem dL_law__427 : decode cL_law_ 427 = .ok (.iconst 0, 1) := by decide +kernel
theorem dL_law__428 : decode cL_law_ 428 = .ok (.ireturn, 1) := by decide +kernel
theorem dL_law__429 : decode cL_law_ 429 = .ok (.goto 1264, 3) := by decide +kernel
theorem dL_law__432 : decode cL_law_ 432 = .ok (.aload_n 1, 1) := by decide +kernel
theorem dL_law__433 : decode cL_law_ 433 = .ok (.aload_n 0, 1) := by decide +kernel
theorem dL_law__434 : decode cL_law_ 434 = .ok (.iload 4, 2) := by decide +kernel
theorem dL_law__436 : decode cL_law_ 436 = .ok (.iconst 1, 1) := by decide +kernel
theorem dL_law__437 : decode cL_law_ 437 = .ok (.iadd, 1) := by decide +kernel
theorem dL_law__438 : decode cL_law_ 438 = .ok (.iaload, 1) := by decide +kernel
theorem dL_law__439 : decode cL_law_ 439 = .ok (.aload_n 0, 1) := by decide +kernel
theorem dL_law__440 : decode cL_law_ 440 = .ok (.iload 4, 2) := by decide +kernel
theorem dL_law__442 : decode cL_law_ 442 = .ok (.iconst 2, 1) := by decide +kernel
theorem dL_law__443 : decode cL_law_ 443 = .ok (.iadd, 1) := by decide +kernel
theorem dL_law__444 : decode cL_law_ 444 = .ok (.iaload, 1) := by decide +kernel
theorem dL_law__445 : decode cL_law_ 445 = .ok (.aload_n 3, 1) := by decide +kernel
theorem dL_law__446 : decode cL_law_ 446 = .ok (.invokestatic 105, 3) := by decide +kernel
theorem dL_law__449 : decode cL_law_ 449 = .ok (.istore 5, 2) := by decide +kernel
theorem dL_law__451 : decode cL_law_ 451 = .ok (.aload_n 2, 1) := by decide +kernel
theorem dL_law__452 : decode cL_law_ 452 = .ok (.aload_n 0, 1) := by decide +kernel
theorem dL_law__453 : decode cL_law_ 453 = .ok (.iload 4, 2) := by decide +kernel
theorem dL_law__455 : decode cL_law_ 455 = .ok (.iconst 1, 1) := by decide +kernel
theorem dL_law__456 : decode cL_law_ 456 = .ok (.iadd, 1) := by decide +kernel
theorem dL_law__457 : decode cL_law_ 457 = .ok (.iaload, 1) := by decide +kernel
theorem dL_law__458 : decode cL_law_ 458 = .ok (.aload_n 0, 1) := by decide +kernel
theorem dL_law__459 : decode cL_law_ 459 = .ok (.iload 4, 2) := by decide +kernel
theorem dL_law__461 : decode cL_law_ 461 = .ok (.iconst 2, 1) := by decide +kernel
theorem dL_law__462 : decode cL_law_ 462 = .ok (.iadd, 1) := by decide +kernel
theorem dL_law__463 : decode cL_law_ 463 = .ok (.iaload, 1) := by decide +kernel
theorem dL_law__464 : decode cL_law_ 464 = .ok (.invokevirtual 107, 3) := by decide +kernel
theorem dL_law__467 : decode cL_law_ 467 = .ok (.istore 6, 2) := by decide +kernel
theorem dL_law__469 : decode cL_law_ 469 = .ok (.aload_n 2, 1) := by decide +kernel
theorem dL_law__470 : decode cL_law_ 470 = .ok (.invokevirtual 89, 3) := by decide +kernel
theorem dL_law__473 : decode cL_law_ 473 = .ok (.iload 5, 2) := by decide +kernel
theorem dL_law__475 : decode cL_law_ 475 = .ok (.if_icmp .eq 5, 3) := by decide +kernel
theorem dL_law__478 : decode cL_law_ 478 = .ok (.iconst 0, 1) := by decide +kernel
theorem dL_law__479 : decode cL_law_ 479 = .ok (.ireturn, 1) := by decide +kernel
theorem dL_law__480 : decode cL_law_ 480 = .ok (.iload 5, 2) := by decide +kernel
theorem dL_law__482 : decode cL_law_ 482 = .ok (.ifCond .ne 15, 3) := by decide +kernel
theorem dL_law__485 : decode cL_law_ 485 = .ok (.aload_n 3, 1) := by decide +kernel
theorem dL_law__486 : decode cL_law_ 486 = .ok (.iconst 0, 1) := by decide +kernel
theorem dL_law__487 : decode cL_law_ 487 = .ok (.laload, 1) := by decide +kernel
theorem dL_law__488 : decode cL_law_ 488 = .ok (.iload 6, 2) := by decide +kernel
theorem dL_law__490 : decode cL_law_ 490 = .ok (.i2l, 1) := by decide +kernel
theorem dL_law__491 : decode cL_law_ 491 = .ok (.lcmp, 1) := by decide +kernel
theorem dL_law__492 : decode cL_law_ 492 = .ok (.ifCond .eq 5, 3) := by decide +kernel
theorem dL_law__495 : decode cL_law_ 495 = .ok (.iconst 0, 1) := by decide +kernel
theorem dL_law__496 : decode cL_law_ 496 = .ok (.ireturn, 1) := by decide +kernel
theorem dL_law__497 : decode cL_law_ 497 = .ok (.goto 1196, 3) := by decide +kernel
theorem dL_law__500 : decode cL_law_ 500 = .ok (.aload_n 1, 1) := by decide +kernel
theorem dL_law__501 : decode cL_law_ 501 = .ok (.aload_n 0, 1) := by decide +kernel
theorem dL_law__502 : decode cL_law_ 502 = .ok (.iload 4, 2) := by decide +kernel
theorem dL_law__504 : decode cL_law_ 504 = .ok (.iconst 1, 1) := by decide +kernel
theorem dL_law__505 : decode cL_law_ 505 = .ok (.iadd, 1) := by decide +kernel
theorem dL_law__506 : decode cL_law_ 506 = .ok (.iaload, 1) := by decide +kernel
theorem dL_law__507 : decode cL_law_ 507 = .ok (.aload_n 0, 1) := by decide +kernel
theorem dL_law__508 : decode cL_law_ 508 = .ok (.iload 4, 2) := by decide +kernel
theorem dL_law__510 : decode cL_law_ 510 = .ok (.iconst 2, 1) := by decide +kernel
theorem dL_law__511 : decode cL_law_ 511 = .ok (.iadd, 1) := by decide +kernel
theorem dL_law__512 : decode cL_law_ 512 = .ok (.iaload, 1) := by decide +kernel
theorem dL_law__513 : decode cL_law_ 513 = .ok (.aload_n 0, 1) := by decide +kernel
theorem dL_law__514 : decode cL_law_ 514 = .ok (.iload 4, 2) := by decide +kernel
theorem dL_law__516 : decode cL_law_ 516 = .ok (.iconst 3, 1) := by decide +kernel
theorem dL_law__517 : decode cL_law_ 517 = .ok (.iadd, 1) := by decide +kernel
theorem dL_law__518 : decode cL_law_ 518 = .ok (.iaload, 1) := by decide +kernel
theorem dL_law__519 : decode cL_law_ 519 = .ok (.aload_n 3, 1) := by decide +kernel
theorem dL_law__520 : decode cL_law_ 520 = .ok (.invokestatic 108, 3) := by decide +kernel
theorem dL_law__523 : decode cL_law_ 523 = .ok (.istore 5, 2) := by decide +kernel
theorem dL_law__525 : decode cL_law_ 525 = .ok (.aload_n 2, 1) := by decide +kernel
theorem dL_law__526 : decode cL_law_ 526 = .ok (.aload_n 0, 1) := by decide +kernel
theorem dL_law__527 : decode cL_law_ 527 = .ok (.iload 4, 2) := by decide +kernel
theorem dL_law__529 : decode cL_law_ 529 = .ok (.iconst 1, 1) := by decide +kernel
theorem dL_law__530 : decode cL_law_ 530 = .ok (.iadd, 1) := by decide +kernel
theorem dL_law__531 : decode cL_law_ 531 = .ok (.iaload, 1) := by decide +kernel
theorem dL_law__532 : decode cL_law_ 532 = .ok (.aload_n 0, 1) := by decide +kernel
theorem dL_law__533 : decode cL_law_ 533 = .ok (.iload 4, 2) := by decide +kernel
theorem dL_law__535 : decode cL_law_ 535 = .ok (.iconst 2, 1) := by decide +kernel
theorem dL_law__536 : decode cL_law_ 536 = .ok (.iadd, 1) := by decide +kernel
theorem dL_law__537 : decode cL_law_ 537 = .ok (.iaload, 1) := by decide +kernel
theorem dL_law__538 : decode cL_law_ 538 = .ok (.aload_n 0, 1) := by decide +kernel
theorem dL_law__539 : decode cL_law_ 539 = .ok (.iload 4, 2) := by decide +kernel
theorem dL_law__541 : decode cL_law_ 541 = .ok (.iconst 3, 1) := by decide +kernel
theorem dL_law__542 : decode cL_law_ 542 = .ok (.iadd, 1) := by decide +kernel
theorem dL_law__543 : decode cL_law_ 543 = .ok (.iaload, 1) := by decide +kernel
theorem dL_law__544 : decode cL_law_ 544 = .ok (.invokevirtual 110, 3) := by decide +kernel
theorem dL_law__547 : decode cL_law_ 547 = .ok (.istore 6, 2) := by decide +kernel
theorem dL_law__549 : decode cL_law_ 549 = .ok (.aload_n 2, 1) := by decide +kernel
theorem dL_law__550 : decode cL_law_ 550 = .ok (.invokevirtual 89, 3) := by decide +kernel
theorem dL_law__553 : decode cL_law_ 553 = .ok (.iload 5, 2) := by decide +kernel
theorem dL_law__555 : decode cL_law_ 555 = .ok (.if_icmp .eq 5, 3) := by decide +kernel
theorem dL_law__558 : decode cL_law_ 558 = .ok (.iconst 0, 1) := by decide +kernel
theorem dL_law__559 : decode cL_law_ 559 = .ok (.ireturn, 1) := by decide +kernel
theorem dL_law__560 : decode cL_law_ 560 = .ok (.iload 5, 2) := by decide +kernel
theorem dL_law__562 : decode cL_law_ 562 = .ok (.ifCond .ne 15, 3) := by decide +kernel
theorem dL_law__565 : decode cL_law_ 565 = .ok (.aload_n 3, 1) := by decide +kernel
theorem dL_law__566 : decode cL_law_ 566 = .ok (.iconst 0, 1) := by decide +kernel
theorem dL_law__567 : decode cL_law_ 567 = .ok (.laload, 1) := by decide +kernel
theorem dL_law__568 : decode cL_law_ 568 = .ok (.iload 6, 2) := by decide +kernel
theorem dL_law__570 : decode cL_law_ 570 = .ok (.i2l, 1) := by decide +kernel
theorem dL_law__571 : decode cL_law_ 571 = .ok (.lcmp, 1) := by decide +kernel
theorem dL_law__572 : decode cL_law_ 572 = .ok (.ifCond .eq 5, 3) := by decide +kernel
theorem dL_law__575 : decode cL_law_ 575 = .ok (.iconst 0, 1) := by decide +kernel
theorem dL_law__576 : decode cL_law_ 576 = .ok (.ireturn, 1) := by decide +kernel
theorem dL_law__577 : decode cL_law_ 577 = .ok (.goto 1116, 3) := by decide +kernel
theorem dL_law__580 : decode cL_law_ 580 = .ok (.aload_n 1, 1) := by decide +kernel
theorem dL_law__581 : decode cL_law_ 581 = .ok (.aload_n 0, 1) := by decide +kernel
theorem dL_law__582 : decode cL_law_ 582 = .ok (.iload 4, 2) := by decide +kernel
theorem dL_law__584 : decode cL_law_ 584 = .ok (.iconst 1, 1) := by decide +kernel
theorem dL_law__585 : decode cL_law_ 585 = .ok (.iadd, 1) := by decide +kernel
theorem dL_law__586 : decode cL_law_ 586 = .ok (.iaload, 1) := by decide +kernel
theorem dL_law__587 : decode cL_law_ 587 = .ok (.aload_n 0, 1) := by decide +kernel
theorem dL_law__588 : decode cL_law_ 588 = .ok (.iload 4, 2) := by decide +kernel
theorem dL_law__590 : decode cL_law_ 590 = .ok (.iconst 2, 1) := by decide +kernel
theorem dL_law__591 : decode cL_law_ 591 = .ok (.iadd, 1) := by decide +kernel
theorem dL_law__592 : decode cL_law_ 592 = .ok (.iaload, 1) := by decide +kernel
theorem dL_law__593 : decode cL_law_ 593 = .ok (.aload_n 0, 1) := by decide +kernel
theorem dL_law__594 : decode cL_law_ 594 = .ok (.iload 4, 2) := by decide +kernel
theorem dL_law__596 : decode cL_law_ 596 = .ok (.iconst 3, 1) := by decide +kernel
theorem dL_law__597 : decode cL_law_ 597 = .ok (.iadd, 1) := by decide +kernel
theorem dL_law__598 : decode cL_law_ 598 = .ok (.iaload, 1) := by decide +kernel
theorem dL_law__599 : decode cL_law_ 599 = .ok (.aload_n 3, 1) := by decide +kernel
theorem dL_law__600 : decode cL_law_ 600 = .ok (.invokestatic 111, 3) := by decide +kernel
theorem dL_law__603 : decode cL_law_ 603 = .ok (.istore 5, 2) := by decide +kernel
theorem dL_law__605 : decode cL_law_ 605 = .ok (.aload_n 2, 1) := by decide +kernel
theorem dL_law__606 : decode cL_law_ 606 = .ok (.aload_n 0, 1) := by decide +kernel
theorem dL_law__607 : decode cL_law_ 607 = .ok (.iload 4, 2) := by decide +kernel
theorem dL_law__609 : decode cL_law_ 609 = .ok (.iconst 1, 1) := by decide +kernel
theorem dL_law__610 : decode cL_law_ 610 = .ok (.iadd, 1) := by decide +kernel
theorem dL_law__611 : decode cL_law_ 611 = .ok (.iaload, 1) := by decide +kernel
theorem dL_law__612 : decode cL_law_ 612 = .ok (.aload_n 0, 1) := by decide +kernel
theorem dL_law__613 : decode cL_law_ 613 = .ok (.iload 4, 2) := by decide +kernel
theorem dL_law__615 : decode cL_law_ 615 = .ok (.iconst 2, 1) := by decide +kernel
theorem dL_law__616 : decode cL_law_ 616 = .ok (.iadd, 1) := by decide +kernel
theorem dL_law__617 : decode cL_law_ 617 = .ok (.iaload, 1) := by decide +kernel
theorem dL_law__618 : decode cL_law_ 618 = .ok (.aload_n 0, 1) := by decide +kernel
theorem dL_law__619 : decode cL_law_ 619 = .ok (.iload 4, 2) := by decide +kernel
theorem dL_law__621 : decode cL_law_ 621 = .ok (.iconst 3, 1) := by decide +kernel
theorem dL_law__622 : decode cL_law_ 622 = .ok (.iadd, 1) := by decide +kernel
theorem dL_law__623 : decode cL_law_ 623 = .ok (.iaload, 1) := by decide +kernel
theorem dL_law__624 : decode cL_law_ 624 = .ok (.invokevirtual 113, 3) := by decide +kernel
theorem dL_law__627 : decode cL_law_ 627 = .ok (.istore 6, 2) := by decide +kernel
theorem dL_law__629 : decode cL_law_ 629 = .ok (.aload_n 2, 1) := by decide +kernel
theorem dL_law__630 : decode cL_law_ 630 = .ok (.invokevirtual 89, 3) := by decide +kernel
theorem dL_law__633 : decode cL_law_ 633 = .ok (.iload 5, 2) := by decide +kernel
theorem dL_law__635 : decode cL_law_ 635 = .ok (.if_icmp .eq 5, 3) := by decide +kernel
theorem dL_law__638 : decode cL_law_ 638 = .ok (.iconst 0, 1) := by decide +kernel
theorem dL_law__639 : decode cL_law_ 639 = .ok (.ireturn, 1) := by decide +kernel
theorem dL_law__640 : decode cL_law_ 640 = .ok (.iload 5, 2) := by decide +kernel
theorem dL_law__642 : decode cL_law_ 642 = .ok (.ifCond .ne 15, 3) := by decide +kernel
theorem dL_law__645 : decode cL_law_ 645 = .ok (.aload_n 3, 1) := by decide +kernel
theorem dL_law__646 : decode cL_law_ 646 = .ok (.iconst 0, 1) := by decide +kernel
theorem dL_law__647 : decode cL_law_ 647 = .ok (.laload, 1) := by decide +kernel
theorem dL_law__648 : decode cL_law_ 648 = .ok (.iload 6, 2) := by decide +kernel
theorem dL_law__650 : decode cL_law_ 650 = .ok (.i2l, 1) := by decide +kernel
theorem dL_law__651 : decode cL_law_ 651 = .ok (.lcmp, 1) := by decide +kernel
theorem dL_law__652 : decode cL_law_ 652 = .ok (.ifCond .eq 5, 3) := by decide +kernel
theorem dL_law__655 : decode cL_law_ 655 = .ok (.iconst 0, 1) := by decide +kernel
theorem dL_law__656 : decode cL_law_ 656 = .ok (.ireturn, 1) := by decide +kernel
theorem dL_law__657 : decode cL_law_ 657 = .ok (.goto 1036, 3) := by decide +kernel
theorem dL_law__660 : decode cL_law_ 660 = .ok (.aload_n 1, 1) := by decide +kernel
theorem dL_law__661 : decode cL_law_ 661 = .ok (.aload_n 0, 1) := by decide +kernel
theorem dL_law__662 : decode cL_law_ 662 = .ok (.iload 4, 2) := by decide +kernel
theorem dL_law__664 : decode cL_law_ 664 = .ok (.iconst 1, 1) := by decide +kernel
theorem dL_law__665 : decode cL_law_ 665 = .ok (.iadd, 1) := by decide +kernel
theorem dL_law__666 : decode cL_law_ 666 = .ok (.iaload, 1) := by decide +kernel
theorem dL_law__667 : decode cL_law_ 667 = .ok (.invokevirtual 114, 3) := by decide +kernel
theorem dL_law__670 : decode cL_law_ 670 = .ok (.aload_n 2, 1) := by decide +kernel
theorem dL_law__671 : decode cL_law_ 671 = .ok (.aload_n 0, 1) := by decide +kernel
theorem dL_law__672 : decode cL_law_ 672 = .ok (.iload 4, 2) := by decide +kernel
theorem dL_law__674 : decode cL_law_ 674 = .ok (.iconst 1, 1) := by decide +kernel
theorem dL_law__675 : decode cL_law_ 675 = .ok (.iadd, 1) := by decide +kernel
theorem dL_law__676 : decode cL_law_ 676 = .ok (.iaload, 1) := by decide +kernel
theorem dL_law__677 : decode cL_law_ 677 = .ok (.invokevirtual 117, 3) := by decide +kernel
theorem dL_law__680 : decode cL_law_ 680 = .ok (.if_icmp .eq 1013, 3) := by decide +kernel
theorem dL_law__683 : decode cL_law_ 683 = .ok (.iconst 0, 1) := by decide +kernel
theorem dL_law__684 : decode cL_law_ 684 = .ok (.ireturn, 1) := by decide +kernel
theorem dL_law__685 : decode cL_law_ 685 = .ok (.aload_n 1, 1) := by decide +kernel
theorem dL_law__686 : decode cL_law_ 686 = .ok (.aload_n 0, 1) := by decide +kernel
theorem dL_law__687 : decode cL_law_ 687 = .ok (.iload 4, 2) := by decide +kernel
theorem dL_law__689 : decode cL_law_ 689 = .ok (.iconst 1, 1) := by decide +kernel
theorem dL_law__690 : decode cL_law_ 690 = .ok (.iadd, 1) := by decide +kernel
theorem dL_law__691 : decode cL_law_ 691 = .ok (.iaload, 1) := by decide +kernel
theorem dL_law__692 : decode cL_law_ 692 = .ok (.aload_n 0, 1) := by decide +kernel
theorem dL_law__693 : decode cL_law_ 693 = .ok (.iload 4, 2) := by decide +kernel
theorem dL_law__695 : decode cL_law_ 695 = .ok (.iconst 2, 1) := by decide +kernel
theorem dL_law__696 : decode cL_law_ 696 = .ok (.iadd, 1) := by decide +kernel
theorem dL_law__697 : decode cL_law_ 697 = .ok (.iaload, 1) := by decide +kernel
theorem dL_law__698 : decode cL_law_ 698 = .ok (.aload_n 0, 1) := by decide +kernel
theorem dL_law__699 : decode cL_law_ 699 = .ok (.iload 4, 2) := by decide +kernel
theorem dL_law__701 : decode cL_law_ 701 = .ok (.iconst 3, 1) := by decide +kernel
theorem dL_law__702 : decode cL_law_ 702 = .ok (.iadd, 1) := by decide +kernel
theorem dL_law__703 : decode cL_law_ 703 = .ok (.iaload, 1) := by decide +kernel
theorem dL_law__704 : decode cL_law_ 704 = .ok (.aload_n 3, 1) := by decide +kernel
theorem dL_law__705 : decode cL_law_ 705 = .ok (.invokestatic 118, 3) := by decide +kernel
theorem dL_law__708 : decode cL_law_ 708 = .ok (.istore 5, 2) := by decide +kernel
theorem dL_law__710 : decode cL_law_ 710 = .ok (.aload_n 2, 1) := by decide +kernel
theorem dL_law__711 : decode cL_law_ 711 = .ok (.aload_n 0, 1) := by decide +kernel
theorem dL_law__712 : decode cL_law_ 712 = .ok (.iload 4, 2) := by decide +kernel
theorem dL_law__714 : decode cL_law_ 714 = .ok (.iconst 1, 1) := by decide +kernel
theorem dL_law__715 : decode cL_law_ 715 = .ok (.iadd, 1) := by decide +kernel
theorem dL_law__716 : decode cL_law_ 716 = .ok (.iaload, 1) := by decide +kernel
theorem dL_law__717 : decode cL_law_ 717 = .ok (.aload_n 0, 1) := by decide +kernel
theorem dL_law__718 : decode cL_law_ 718 = .ok (.iload 4, 2) := by decide +kernel
theorem dL_law__720 : decode cL_law_ 720 = .ok (.iconst 2, 1) := by decide +kernel
theorem dL_law__721 : decode cL_law_ 721 = .ok (.iadd, 1) := by decide +kernel
theorem dL_law__722 : decode cL_law_ 722 = .ok (.iaload, 1) := by decide +kernel
theorem dL_law__723 : decode cL_law_ 723 = .ok (.aload_n 0, 1) := by decide +kernel
theorem dL_law__724 : decode cL_law_ 724 = .ok (.iload 4, 2) := by decide +kernel
theorem dL_law__726 : decode cL_law_ 726 = .ok (.iconst 3, 1) := by decide +kernel
theorem dL_law__727 : decode cL_law_ 727 = .ok (.iadd, 1) := by decide +kernel
theorem dL_law__728 : decode cL_law_ 728 = .ok (.iaload, 1) := by decide +kernel
theorem dL_law__729 : decode cL_law_ 729 = .ok (.invokevirtual 120, 3) := by decide +kernel
theorem dL_law__732 : decode cL_law_ 732 = .ok (.istore 6, 2) := by decide +kernel
theorem dL_law__734 : decode cL_law_ 734 = .ok (.aload_n 2, 1) := by decide +kernel
theorem dL_law__735 : decode cL_law_ 735 = .ok (.invokevirtual 89, 3) := by decide +kernel
theorem dL_law__738 : decode cL_law_ 738 = .ok (.iload 5, 2) := by decide +kernel
theorem dL_law__740 : decode cL_law_ 740 = .ok (.if_icmp .eq 5, 3) := by decide +kernel
theorem dL_law__743 : decode cL_law_ 743 = .ok (.iconst 0, 1) := by decide +kernel
theorem dL_law__744 : decode cL_law_ 744 = .ok (.ireturn, 1) := by decide +kernel
theorem dL_law__745 : decode cL_law_ 745 = .ok (.iload 5, 2) := by decide +kernel
theorem dL_law__747 : decode cL_law_ 747 = .ok (.ifCond .ne 15, 3) := by decide +kernel
theorem dL_law__750 : decode cL_law_ 750 = .ok (.aload_n 3, 1) := by decide +kernel
theorem dL_law__751 : decode cL_law_ 751 = .ok (.iconst 0, 1) := by decide +kernel
theorem dL_law__752 : decode cL_law_ 752 = .ok (.laload, 1) := by decide +kernel
theorem dL_law__753 : decode cL_law_ 753 = .ok (.iload 6, 2) := by decide +kernel
theorem dL_law__755 : decode cL_law_ 755 = .ok (.i2l, 1) := by decide +kernel
theorem dL_law__756 : decode cL_law_ 756 = .ok (.lcmp, 1) := by decide +kernel
theorem dL_law__757 : decode cL_law_ 757 = .ok (.ifCond .eq 5, 3) := by decide +kernel
theorem dL_law__760 : decode cL_law_ 760 = .ok (.iconst 0, 1) := by decide +kernel
theorem dL_law__761 : decode cL_law_ 761 = .ok (.ireturn, 1) := by decide +kernel
theorem dL_law__762 : decode cL_law_ 762 = .ok (.goto 931, 3) := by decide +kernel
theorem dL_law__765 : decode cL_law_ 765 = .ok (.aload_n 1, 1) := by decide +kernel
theorem dL_law__766 : decode cL_law_ 766 = .ok (.aload_n 0, 1) := by decide +kernel
theorem dL_law__767 : decode cL_law_ 767 = .ok (.iload 4, 2) := by decide +kernel
theorem dL_law__769 : decode cL_law_ 769 = .ok (.iconst 1, 1) := by decide +kernel
theorem dL_law__770 : decode cL_law_ 770 = .ok (.iadd, 1) := by decide +kernel
theorem dL_law__771 : decode cL_law_ 771 = .ok (.iaload, 1) := by decide +kernel
theorem dL_law__772 : decode cL_law_ 772 = .ok (.aload_n 0, 1) := by decide +kernel
theorem dL_law__773 : decode cL_law_ 773 = .ok (.iload 4, 2) := by decide +kernel
theorem dL_law__775 : decode cL_law_ 775 = .ok (.iconst 2, 1) := by decide +kernel
theorem dL_law__776 : decode cL_law_ 776 = .ok (.iadd, 1) := by decide +kernel
theorem dL_law__777 : decode cL_law_ 777 = .ok (.iaload, 1) := by decide +kernel
theorem dL_law__778 : decode cL_law_ 778 = .ok (.aload_n 0, 1) := by decide +kernel
theorem dL_law__779 : decode cL_law_ 779 = .ok (.iload 4, 2) := by decide +kernel
theorem dL_law__781 : decode cL_law_ 781 = .ok (.iconst 3, 1) := by decide +kernel
theorem dL_law__782 : decode cL_law_ 782 = .ok (.iadd, 1) := by decide +kernel
theorem dL_law__783 : decode cL_law_ 783 = .ok (.iaload, 1) := by decide +kernel
theorem dL_law__784 : decode cL_law_ 784 = .ok (.aload_n 0, 1) := by decide +kernel
theorem dL_law__785 : decode cL_law_ 785 = .ok (.iload 4, 2) := by decide +kernel
theorem dL_law__787 : decode cL_law_ 787 = .ok (.iconst 4, 1) := by decide +kernel
theorem dL_law__788 : decode cL_law_ 788 = .ok (.iadd, 1) := by decide +kernel
theorem dL_law__789 : decode cL_law_ 789 = .ok (.iaload, 1) := by decide +kernel
theorem dL_law__790 : decode cL_law_ 790 = .ok (.aload_n 3, 1) := by decide +kernel
theorem dL_law__791 : decode cL_law_ 791 = .ok (.invokestatic 121, 3) := by decide +kernel
theorem dL_law__794 : decode cL_law_ 794 = .ok (.istore 5, 2) := by decide +kernel
theorem dL_law__796 : decode cL_law_ 796 = .ok (.aload_n 2, 1) := by decide +kernel
theorem dL_law__797 : decode cL_law_ 797 = .ok (.aload_n 0, 1) := by decide +kernel
theorem dL_law__798 : decode cL_law_ 798 = .ok (.iload 4, 2) := by decide +kernel
theorem dL_law__800 : decode cL_law_ 800 = .ok (.iconst 1, 1) := by decide +kernel
theorem dL_law__801 : decode cL_law_ 801 = .ok (.iadd, 1) := by decide +kernel
theorem dL_law__802 : decode cL_law_ 802 = .ok (.iaload, 1) := by decide +kernel
theorem dL_law__803 : decode cL_law_ 803 = .ok (.aload_n 0, 1) := by decide +kernel
theorem dL_law__804 : decode cL_law_ 804 = .ok (.iload 4, 2) := by decide +kernel
theorem dL_law__806 : decode cL_law_ 806 = .ok (.iconst 2, 1) := by decide +kernel
theorem dL_law__807 : decode cL_law_ 807 = .ok (.iadd, 1) := by decide +kernel
theorem dL_law__808 : decode cL_law_ 808 = .ok (.iaload, 1) := by decide +kernel
theorem dL_law__809 : decode cL_law_ 809 = .ok (.aload_n 0, 1) := by decide +kernel
theorem dL_law__810 : decode cL_law_ 810 = .ok (.iload 4, 2) := by decide +kernel
theorem dL_law__812 : decode cL_law_ 812 = .ok (.iconst 3, 1) := by decide +kernel
theorem dL_law__813 : decode cL_law_ 813 = .ok (.iadd, 1) := by decide +kernel
theorem dL_law__814 : decode cL_law_ 814 = .ok (.iaload, 1) := by decide +kernel
theorem dL_law__815 : decode cL_law_ 815 = .ok (.aload_n 0, 1) := by decide +kernel
theorem dL_law__816 : decode cL_law_ 816 = .ok (.iload 4, 2) := by decide +kernel
theorem dL_law__818 : decode cL_law_ 818 = .ok (.iconst 4, 1) := by decide +kernel
theorem dL_law__819 : decode cL_law_ 819 = .ok (.iadd, 1) := by decide +kernel
theorem dL_law__820 : decode cL_law_ 820 = .ok (.iaload, 1) := by decide +kernel
theorem dL_law__821 : decode cL_law_ 821 = .ok (.invokevirtual 123, 3) := by decide +kernel
theorem dL_law__824 : decode cL_law_ 824 = .ok (.istore 6, 2) := by decide +kernel
theorem dL_law__826 : decode cL_law_ 826 = .ok (.aload_n 2, 1) := by decide +kernel
theorem dL_law__827 : decode cL_law_ 827 = .ok (.invokevirtual 89, 3) := by decide +kernel
theorem dL_law__830 : decode cL_law_ 830 = .ok (.iload 5, 2) := by decide +kernel
theorem dL_law__832 : decode cL_law_ 832 = .ok (.if_icmp .eq 5, 3) := by decide +kernel
theorem dL_law__835 : decode cL_law_ 835 = .ok (.iconst 0, 1) := by decide +kernel
theorem dL_law__836 : decode cL_law_ 836 = .ok (.ireturn, 1) := by decide +kernel
theorem dL_law__837 : decode cL_law_ 837 = .ok (.iload 5, 2) := by decide +kernel
theorem dL_law__839 : decode cL_law_ 839 = .ok (.ifCond .ne 15, 3) := by decide +kernel
theorem dL_law__842 : decode cL_law_ 842 = .ok (.aload_n 3, 1) := by decide +kernel
theorem dL_law__843 : decode cL_law_ 843 = .ok (.iconst 0, 1) := by decide +kernel
theorem dL_law__844 : decode cL_law_ 844 = .ok (.laload, 1) := by decide +kernel
theorem dL_law__845 : decode cL_law_ 845 = .ok (.iload 6, 2) := by decide +kernel
theorem dL_law__847 : decode cL_law_ 847 = .ok (.i2l, 1) := by decide +kernel
theorem dL_law__848 : decode cL_law_ 848 = .ok (.lcmp, 1) := by decide +kernel
theorem dL_law__849 : decode cL_law_ 849 = .ok (.ifCond .eq 5, 3) := by decide +kernel
theorem dL_law__852 : decode cL_law_ 852 = .ok (.iconst 0, 1) := by decide +kernel
theorem dL_law__853 : decode cL_law_ 853 = .ok (.ireturn, 1) := by decide +kernel
theorem dL_law__854 : decode cL_law_ 854 = .ok (.goto 839, 3) := by decide +kernel
theorem dL_law__857 : decode cL_law_ 857 = .ok (.aload_n 1, 1) := by decide +kernel
theorem dL_law__858 : decode cL_law_ 858 = .ok (.aload_n 0, 1) := by decide +kernel
theorem dL_law__859 : decode cL_law_ 859 = .ok (.iload 4, 2) := by decide +kernel
theorem dL_law__861 : decode cL_law_ 861 = .ok (.iconst 1, 1) := by decide +kernel
theorem dL_law__862 : decode cL_law_ 862 = .ok (.iadd, 1) := by decide +kernel
theorem dL_law__863 : decode cL_law_ 863 = .ok (.iaload, 1) := by decide +kernel
theorem dL_law__864 : decode cL_law_ 864 = .ok (.aload_n 0, 1) := by decide +kernel
theorem dL_law__865 : decode cL_law_ 865 = .ok (.iload 4, 2) := by decide +kernel
theorem dL_law__867 : decode cL_law_ 867 = .ok (.iconst 2, 1) := by decide +kernel
theorem dL_law__868 : decode cL_law_ 868 = .ok (.iadd, 1) := by decide +kernel
theorem dL_law__869 : decode cL_law_ 869 = .ok (.iaload, 1) := by decide +kernel
theorem dL_law__870 : decode cL_law_ 870 = .ok (.aload_n 0, 1) := by decide +kernel
theorem dL_law__871 : decode cL_law_ 871 = .ok (.iload 4, 2) := by decide +kernel
theorem dL_law__873 : decode cL_law_ 873 = .ok (.iconst 3, 1) := by decide +kernel
theorem dL_law__874 : decode cL_law_ 874 = .ok (.iadd, 1) := by decide +kernel
theorem dL_law__875 : decode cL_law_ 875 = .ok (.iaload, 1) := by decide +kernel
theorem dL_law__876 : decode cL_law_ 876 = .ok (.aload_n 0, 1) := by decide +kernel
theorem dL_law__877 : decode cL_law_ 877 = .ok (.iload 4, 2) := by decide +kernel
theorem dL_law__879 : decode cL_law_ 879 = .ok (.iconst 4, 1) := by decide +kernel
theorem dL_law__880 : decode cL_law_ 880 = .ok (.iadd, 1) := by decide +kernel
theorem dL_law__881 : decode cL_law_ 881 = .ok (.iaload, 1) := by decide +kernel
theorem dL_law__882 : decode cL_law_ 882 = .ok (.aload_n 3, 1) := by decide +kernel
theorem dL_law__883 : decode cL_law_ 883 = .ok (.invokestatic 124, 3) := by decide +kernel
theorem dL_law__886 : decode cL_law_ 886 = .ok (.istore 5, 2) := by decide +kernel
theorem dL_law__888 : decode cL_law_ 888 = .ok (.aload_n 2, 1) := by decide +kernel
theorem dL_law__889 : decode cL_law_ 889 = .ok (.aload_n 0, 1) := by decide +kernel
theorem dL_law__890 : decode cL_law_ 890 = .ok (.iload 4, 2) := by decide +kernel
theorem dL_law__892 : decode cL_law_ 892 = .ok (.iconst 1, 1) := by decide +kernel
theorem dL_law__893 : decode cL_law_ 893 = .ok (.iadd, 1) := by decide +kernel
theorem dL_law__894 : decode cL_law_ 894 = .ok (.iaload, 1) := by decide +kernel
theorem dL_law__895 : decode cL_law_ 895 = .ok (.aload_n 0, 1) := by decide +kernel
theorem dL_law__896 : decode cL_law_ 896 = .ok (.iload 4, 2) := by decide +kernel
theorem dL_law__898 : decode cL_law_ 898 = .ok (.iconst 2, 1) := by decide +kernel
theorem dL_law__899 : decode cL_law_ 899 = .ok (.iadd, 1) := by decide +kernel
theorem dL_law__900 : decode cL_law_ 900 = .ok (.iaload, 1) := by decide +kernel
theorem dL_law__901 : decode cL_law_ 901 = .ok (.aload_n 0, 1) := by decide +kernel
theorem dL_law__902 : decode cL_law_ 902 = .ok (.iload 4, 2) := by decide +kernel
theorem dL_law__904 : decode cL_law_ 904 = .ok (.iconst 3, 1) := by decide +kernel
theorem dL_law__905 : decode cL_law_ 905 = .ok (.iadd, 1) := by decide +kernel
theorem dL_law__906 : decode cL_law_ 906 = .ok (.iaload, 1) := by decide +kernel
theorem dL_law__907 : decode cL_law_ 907 = .ok (.aload_n 0, 1) := by decide +kernel
theorem dL_law__908 : decode cL_law_ 908 = .ok (.iload 4, 2) := by decide +kernel
theorem dL_law__910 : decode cL_law_ 910 = .ok (.iconst 4, 1) := by decide +kernel
theorem dL_law__911 : decode cL_law_ 911 = .ok (.iadd, 1) := by decide +kernel
theorem dL_law__912 : decode cL_law_ 912 = .ok (.iaload, 1) := by decide +kernel
theorem dL_law__913 : decode cL_law_ 913 = .ok (.invokevirtual 126, 3) := by decide +kernel
theorem dL_law__916 : decode cL_law_ 916 = .ok (.istore 6, 2) := by decide +kernel
theorem dL_law__918 : decode cL_law_ 918 = .ok (.aload_n 2, 1) := by decide +kernel
theorem dL_law__919 : decode cL_law_ 919 = .ok (.invokevirtual 89, 3) := by decide +kernel
theorem dL_law__922 : decode cL_law_ 922 = .ok (.iload 5, 2) := by decide +kernel
theorem dL_law__924 : decode cL_law_ 924 = .ok (.if_icmp .eq 5, 3) := by decide +kernel
theorem dL_law__927 : decode cL_law_ 927 = .ok (.iconst 0, 1) := by decide +kernel
theorem dL_law__928 : decode cL_law_ 928 = .ok (.ireturn, 1) := by decide +kernel
theorem dL_law__929 : decode cL_law_ 929 = .ok (.iload 5, 2) := by decide +kernel
theorem dL_law__931 : decode cL_law_ 931 = .ok (.ifCond .ne 15, 3) := by decide +kernel
theorem dL_law__934 : decode cL_law_ 934 = .ok (.aload_n 3, 1) := by decide +kernel
theorem dL_law__935 : decode cL_law_ 935 = .ok (.iconst 0, 1) := by decide +kernel
theorem dL_law__936 : decode cL_law_ 936 = .ok (.laload, 1) := by decide +kernel
theorem dL_law__937 : decode cL_law_ 937 = .ok (.iload 6, 2) := by decide +kernel
theorem dL_law__939 : decode cL_law_ 939 = .ok (.i2l, 1) := by decide +kernel
theorem dL_law__940 : decode cL_law_ 940 = .ok (.lcmp, 1) := by decide +kernel
theorem dL_law__941 : decode cL_law_ 941 = .ok (.ifCond .eq 5, 3) := by decide +kernel
theorem dL_law__944 : decode cL_law_ 944 = .ok (.iconst 0, 1) := by decide +kernel
theorem dL_law__945 : decode cL_law_ 945 = .ok (.ireturn, 1) := by decide +kernel
theorem dL_law__946 : decode cL_law_ 946 = .ok (.goto 747, 3) := by decide +kernel
theorem dL_law__949 : decode cL_law_ 949 = .ok (.aload_n 1, 1) := by decide +kernel
theorem dL_law__950 : decode cL_law_ 950 = .ok (.aload_n 0, 1) := by decide +kernel
theorem dL_law__951 : decode cL_law_ 951 = .ok (.iload 4, 2) := by decide +kernel
theorem dL_law__953 : decode cL_law_ 953 = .ok (.iconst 1, 1) := by decide +kernel
theorem dL_law__954 : decode cL_law_ 954 = .ok (.iadd, 1) := by decide +kernel
theorem dL_law__955 : decode cL_law_ 955 = .ok (.iaload, 1) := by decide +kernel
theorem dL_law__956 : decode cL_law_ 956 = .ok (.aload_n 0, 1) := by decide +kernel
theorem dL_law__957 : decode cL_law_ 957 = .ok (.iload 4, 2) := by decide +kernel
theorem dL_law__959 : decode cL_law_ 959 = .ok (.iconst 2, 1) := by decide +kernel
theorem dL_law__960 : decode cL_law_ 960 = .ok (.iadd, 1) := by decide +kernel
theorem dL_law__961 : decode cL_law_ 961 = .ok (.iaload, 1) := by decide +kernel
theorem dL_law__962 : decode cL_law_ 962 = .ok (.aload_n 0, 1) := by decide +kernel
theorem dL_law__963 : decode cL_law_ 963 = .ok (.iload 4, 2) := by decide +kernel
theorem dL_law__965 : decode cL_law_ 965 = .ok (.iconst 3, 1) := by decide +kernel
theorem dL_law__966 : decode cL_law_ 966 = .ok (.iadd, 1) := by decide +kernel
theorem dL_law__967 : decode cL_law_ 967 = .ok (.iaload, 1) := by decide +kernel
theorem dL_law__968 : decode cL_law_ 968 = .ok (.aload_n 3, 1) := by decide +kernel
theorem dL_law__969 : decode cL_law_ 969 = .ok (.invokestatic 127, 3) := by decide +kernel
theorem dL_law__972 : decode cL_law_ 972 = .ok (.istore 5, 2) := by decide +kernel
theorem dL_law__974 : decode cL_law_ 974 = .ok (.aload_n 2, 1) := by decide +kernel
theorem dL_law__975 : decode cL_law_ 975 = .ok (.aload_n 0, 1) := by decide +kernel
theorem dL_law__976 : decode cL_law_ 976 = .ok (.iload 4, 2) := by decide +kernel
theorem dL_law__978 : decode cL_law_ 978 = .ok (.iconst 1, 1) := by decide +kernel
theorem dL_law__979 : decode cL_law_ 979 = .ok (.iadd, 1) := by decide +kernel
theorem dL_law__980 : decode cL_law_ 980 = .ok (.iaload, 1) := by decide +kernel
theorem dL_law__981 : decode cL_law_ 981 = .ok (.aload_n 0, 1) := by decide +kernel
theorem dL_law__982 : decode cL_law_ 982 = .ok (.iload 4, 2) := by decide +kernel
theorem dL_law__984 : decode cL_law_ 984 = .ok (.iconst 2, 1) := by decide +kernel
theorem dL_law__985 : decode cL_law_ 985 = .ok (.iadd, 1) := by decide +kernel
theorem dL_law__986 : decode cL_law_ 986 = .ok (.iaload, 1) := by decide +kernel
theorem dL_law__987 : decode cL_law_ 987 = .ok (.aload_n 0, 1) := by decide +kernel
theorem dL_law__988 : decode cL_law_ 988 = .ok (.iload 4, 2) := by decide +kernel
theorem dL_law__990 : decode cL_law_ 990 = .ok (.iconst 3, 1) := by decide +kernel
theorem dL_law__991 : decode cL_law_ 991 = .ok (.iadd, 1) := by decide +kernel
theorem dL_law__992 : decode cL_law_ 992 = .ok (.iaload, 1) := by decide +kernel
theorem dL_law__993 : decode cL_law_ 993 = .ok (.invokevirtual 129, 3) := by decide +kernel
theorem dL_law__996 : decode cL_law_ 996 = .ok (.istore 6, 2) := by decide +kernel
theorem dL_law__998 : decode cL_law_ 998 = .ok (.aload_n 2, 1) := by decide +kernel
theorem dL_law__999 : decode cL_law_ 999 = .ok (.invokevirtual 89, 3) := by decide +kernel
theorem dL_law__1002 : decode cL_law_ 1002 = .ok (.iload 5, 2) := by decide +kernel
theorem dL_law__1004 : decode cL_law_ 1004 = .ok (.if_icmp .eq 5, 3) := by decide +kernel
theorem dL_law__1007 : decode cL_law_ 1007 = .ok (.iconst 0, 1) := by decide +kernel
theorem dL_law__1008 : decode cL_law_ 1008 = .ok (.ireturn, 1) := by decide +kernel
theorem dL_law__1009 : decode cL_law_ 1009 = .ok (.iload 5, 2) := by decide +kernel
theorem dL_law__1011 : decode cL_law_ 1011 = .ok (.ifCond .ne 15, 3) := by decide +kernel
theorem dL_law__1014 : decode cL_law_ 1014 = .ok (.aload_n 3, 1) := by decide +kernel
theorem dL_law__1015 : decode cL_law_ 1015 = .ok (.iconst 0, 1) := by decide +kernel
theorem dL_law__1016 : decode cL_law_ 1016 = .ok (.laload, 1) := by decide +kernel
theorem dL_law__1017 : decode cL_law_ 1017 = .ok (.iload 6, 2) := by decide +kernel
theorem dL_law__1019 : decode cL_law_ 1019 = .ok (.i2l, 1) := by decide +kernel
theorem dL_law__1020 : decode cL_law_ 1020 = .ok (.lcmp, 1) := by decide +kernel
theorem dL_law__1021 : decode cL_law_ 1021 = .ok (.ifCond .eq 5, 3) := by decide +kernel
theorem dL_law__1024 : decode cL_law_ 1024 = .ok (.iconst 0, 1) := by decide +kernel
theorem dL_law__1025 : decode cL_law_ 1025 = .ok (.ireturn, 1) := by decide +kernel
theorem dL_law__1026 : decode cL_law_ 1026 = .ok (.goto 667, 3) := by decide +kernel
theorem dL_law__1029 : decode cL_law_ 1029 = .ok (.aload_n 1, 1) := by decide +kernel
theorem dL_law__1030 : decode cL_law_ 1030 = .ok (.aload_n 0, 1) := by decide +kernel
theorem dL_law__1031 : decode cL_law_ 1031 = .ok (.iload 4, 2) := by decide +kernel
theorem dL_law__1033 : decode cL_law_ 1033 = .ok (.iconst 1, 1) := by decide +kernel
theorem dL_law__1034 : decode cL_law_ 1034 = .ok (.iadd, 1) := by decide +kernel
theorem dL_law__1035 : decode cL_law_ 1035 = .ok (.iaload, 1) := by decide +kernel
theorem dL_law__1036 : decode cL_law_ 1036 = .ok (.aload_n 0, 1) := by decide +kernel
theorem dL_law__1037 : decode cL_law_ 1037 = .ok (.iload 4, 2) := by decide +kernel
theorem dL_law__1039 : decode cL_law_ 1039 = .ok (.iconst 2, 1) := by decide +kernel
theorem dL_law__1040 : decode cL_law_ 1040 = .ok (.iadd, 1) := by decide +kernel
theorem dL_law__1041 : decode cL_law_ 1041 = .ok (.iaload, 1) := by decide +kernel
theorem dL_law__1042 : decode cL_law_ 1042 = .ok (.aload_n 0, 1) := by decide +kernel
theorem dL_law__1043 : decode cL_law_ 1043 = .ok (.iload 4, 2) := by decide +kernel
theorem dL_law__1045 : decode cL_law_ 1045 = .ok (.iconst 3, 1) := by decide +kernel
theorem dL_law__1046 : decode cL_law_ 1046 = .ok (.iadd, 1) := by decide +kernel
theorem dL_law__1047 : decode cL_law_ 1047 = .ok (.iaload, 1) := by decide +kernel
theorem dL_law__1048 : decode cL_law_ 1048 = .ok (.aload_n 0, 1) := by decide +kernel
theorem dL_law__1049 : decode cL_law_ 1049 = .ok (.iload 4, 2) := by decide +kernel
theorem dL_law__1051 : decode cL_law_ 1051 = .ok (.iconst 4, 1) := by decide +kernel
theorem dL_law__1052 : decode cL_law_ 1052 = .ok (.iadd, 1) := by decide +kernel
theorem dL_law__1053 : decode cL_law_ 1053 = .ok (.iaload, 1) := by decide +kernel
theorem dL_law__1054 : decode cL_law_ 1054 = .ok (.aload_n 0, 1) := by decide +kernel
theorem dL_law__1055 : decode cL_law_ 1055 = .ok (.iload 4, 2) := by decide +kernel
theorem dL_law__1057 : decode cL_law_ 1057 = .ok (.iconst 5, 1) := by decide +kernel
theorem dL_law__1058 : decode cL_law_ 1058 = .ok (.iadd, 1) := by decide +kernel
theorem dL_law__1059 : decode cL_law_ 1059 = .ok (.iaload, 1) := by decide +kernel
theorem dL_law__1060 : decode cL_law_ 1060 = .ok (.aload_n 3, 1) := by decide +kernel
theorem dL_law__1061 : decode cL_law_ 1061 = .ok (.invokestatic 130, 3) := by decide +kernel
theorem dL_law__1064 : decode cL_law_ 1064 = .ok (.istore 5, 2) := by decide +kernel
theorem dL_law__1066 : decode cL_law_ 1066 = .ok (.aload_n 2, 1) := by decide +kernel
theorem dL_law__1067 : decode cL_law_ 1067 = .ok (.aload_n 0, 1) := by decide +kernel
theorem dL_law__1068 : decode cL_law_ 1068 = .ok (.iload 4, 2) := by decide +kernel
theorem dL_law__1070 : decode cL_law_ 1070 = .ok (.iconst 1, 1) := by decide +kernel
theorem dL_law__1071 : decode cL_law_ 1071 = .ok (.iadd, 1) := by decide +kernel
theorem dL_law__1072 : decode cL_law_ 1072 = .ok (.iaload, 1) := by decide +kernel
theorem dL_law__1073 : decode cL_law_ 1073 = .ok (.aload_n 0, 1) := by decide +kernel
theorem dL_law__1074 : decode cL_law_ 1074 = .ok (.iload 4, 2) := by decide +kernel
theorem dL_law__1076 : decode cL_law_ 1076 = .ok (.iconst 2, 1) := by decide +kernel
theorem dL_law__1077 : decode cL_law_ 1077 = .ok (.iadd, 1) := by decide +kernel
theorem dL_law__1078 : decode cL_law_ 1078 = .ok (.iaload, 1) := by decide +kernel
theorem dL_law__1079 : decode cL_law_ 1079 = .ok (.aload_n 0, 1) := by decide +kernel
theorem dL_law__1080 : decode cL_law_ 1080 = .ok (.iload 4, 2) := by decide +kernel
theorem dL_law__1082 : decode cL_law_ 1082 = .ok (.iconst 3, 1) := by decide +kernel
theorem dL_law__1083 : decode cL_law_ 1083 = .ok (.iadd, 1) := by decide +kernel
theorem dL_law__1084 : decode cL_law_ 1084 = .ok (.iaload, 1) := by decide +kernel
theorem dL_law__1085 : decode cL_law_ 1085 = .ok (.aload_n 0, 1) := by decide +kernel
theorem dL_law__1086 : decode cL_law_ 1086 = .ok (.iload 4, 2) := by decide +kernel
theorem dL_law__1088 : decode cL_law_ 1088 = .ok (.iconst 4, 1) := by decide +kernel
theorem dL_law__1089 : decode cL_law_ 1089 = .ok (.iadd, 1) := by decide +kernel
theorem dL_law__1090 : decode cL_law_ 1090 = .ok (.iaload, 1) := by decide +kernel
theorem dL_law__1091 : decode cL_law_ 1091 = .ok (.aload_n 0, 1) := by decide +kernel
theorem dL_law__1092 : decode cL_law_ 1092 = .ok (.iload 4, 2) := by decide +kernel
theorem dL_law__1094 : decode cL_law_ 1094 = .ok (.iconst 5, 1) := by decide +kernel
theorem dL_law__1095 : decode cL_law_ 1095 = .ok (.iadd, 1) := by decide +kernel
theorem dL_law__1096 : decode cL_law_ 1096 = .ok (.iaload, 1) := by decide +kernel
theorem dL_law__1097 : decode cL_law_ 1097 = .ok (.invokevirtual 133, 3) := by decide +kernel
theorem dL_law__1100 : decode cL_law_ 1100 = .ok (.istore 6, 2) := by decide +kernel
theorem dL_law__1102 : decode cL_law_ 1102 = .ok (.aload_n 2, 1) := by decide +kernel
theorem dL_law__1103 : decode cL_law_ 1103 = .ok (.invokevirtual 89, 3) := by decide +kernel
theorem dL_law__1106 : decode cL_law_ 1106 = .ok (.iload 5, 2) := by decide +kernel
theorem dL_law__1108 : decode cL_law_ 1108 = .ok (.if_icmp .eq 5, 3) := by decide +kernel
theorem dL_law__1111 : decode cL_law_ 1111 = .ok (.iconst 0, 1) := by decide +kernel
theorem dL_law__1112 : decode cL_law_ 1112 = .ok (.ireturn, 1) := by decide +kernel
theorem dL_law__1113 : decode cL_law_ 1113 = .ok (.iload 5, 2) := by decide +kernel
theorem dL_law__1115 : decode cL_law_ 1115 = .ok (.ifCond .ne 15, 3) := by decide +kernel
theorem dL_law__1118 : decode cL_law_ 1118 = .ok (.aload_n 3, 1) := by decide +kernel
theorem dL_law__1119 : decode cL_law_ 1119 = .ok (.iconst 0, 1) := by decide +kernel
theorem dL_law__1120 : decode cL_law_ 1120 = .ok (.laload, 1) := by decide +kernel
theorem dL_law__1121 : decode cL_law_ 1121 = .ok (.iload 6, 2) := by decide +kernel
theorem dL_law__1123 : decode cL_law_ 1123 = .ok (.i2l, 1) := by decide +kernel
theorem dL_law__1124 : decode cL_law_ 1124 = .ok (.lcmp, 1) := by decide +kernel
theorem dL_law__1125 : decode cL_law_ 1125 = .ok (.ifCond .eq 5, 3) := by decide +kernel
theorem dL_law__1128 : decode cL_law_ 1128 = .ok (.iconst 0, 1) := by decide +kernel
theorem dL_law__1129 : decode cL_law_ 1129 = .ok (.ireturn, 1) := by decide +kernel
theorem dL_law__1130 : decode cL_law_ 1130 = .ok (.goto 563, 3) := by decide +kernel
theorem dL_law__1133 : decode cL_law_ 1133 = .ok (.aload_n 1, 1) := by decide +kernel
theorem dL_law__1134 : decode cL_law_ 1134 = .ok (.aload_n 0, 1) := by decide +kernel
theorem dL_law__1135 : decode cL_law_ 1135 = .ok (.iload 4, 2) := by decide +kernel
theorem dL_law__1137 : decode cL_law_ 1137 = .ok (.iconst 1, 1) := by decide +kernel
theorem dL_law__1138 : decode cL_law_ 1138 = .ok (.iadd, 1) := by decide +kernel
theorem dL_law__1139 : decode cL_law_ 1139 = .ok (.iaload, 1) := by decide +kernel
theorem dL_law__1140 : decode cL_law_ 1140 = .ok (.aload_n 0, 1) := by decide +kernel
theorem dL_law__1141 : decode cL_law_ 1141 = .ok (.iload 4, 2) := by decide +kernel
theorem dL_law__1143 : decode cL_law_ 1143 = .ok (.iconst 2, 1) := by decide +kernel
theorem dL_law__1144 : decode cL_law_ 1144 = .ok (.iadd, 1) := by decide +kernel
theorem dL_law__1145 : decode cL_law_ 1145 = .ok (.iaload, 1) := by decide +kernel
theorem dL_law__1146 : decode cL_law_ 1146 = .ok (.aload_n 0, 1) := by decide +kernel
theorem dL_law__1147 : decode cL_law_ 1147 = .ok (.iload 4, 2) := by decide +kernel
theorem dL_law__1149 : decode cL_law_ 1149 = .ok (.iconst 3, 1) := by decide +kernel
theorem dL_law__1150 : decode cL_law_ 1150 = .ok (.iadd, 1) := by decide +kernel
theorem dL_law__1151 : decode cL_law_ 1151 = .ok (.iaload, 1) := by decide +kernel
theorem dL_law__1152 : decode cL_law_ 1152 = .ok (.aload_n 0, 1) := by decide +kernel
theorem dL_law__1153 : decode cL_law_ 1153 = .ok (.iload 4, 2) := by decide +kernel
theorem dL_law__1155 : decode cL_law_ 1155 = .ok (.iconst 4, 1) := by decide +kernel
theorem dL_law__1156 : decode cL_law_ 1156 = .ok (.iadd, 1) := by decide +kernel
theorem dL_law__1157 : decode cL_law_ 1157 = .ok (.iaload, 1) := by decide +kernel
theorem dL_law__1158 : decode cL_law_ 1158 = .ok (.aload_n 3, 1) := by decide +kernel
theorem dL_law__1159 : decode cL_law_ 1159 = .ok (.invokestatic 134, 3) := by decide +kernel
theorem dL_law__1162 : decode cL_law_ 1162 = .ok (.istore 5, 2) := by decide +kernel
theorem dL_law__1164 : decode cL_law_ 1164 = .ok (.aload_n 2, 1) := by decide +kernel
theorem dL_law__1165 : decode cL_law_ 1165 = .ok (.aload_n 0, 1) := by decide +kernel
theorem dL_law__1166 : decode cL_law_ 1166 = .ok (.iload 4, 2) := by decide +kernel
theorem dL_law__1168 : decode cL_law_ 1168 = .ok (.iconst 1, 1) := by decide +kernel
theorem dL_law__1169 : decode cL_law_ 1169 = .ok (.iadd, 1) := by decide +kernel
theorem dL_law__1170 : decode cL_law_ 1170 = .ok (.iaload, 1) := by decide +kernel
theorem dL_law__1171 : decode cL_law_ 1171 = .ok (.aload_n 0, 1) := by decide +kernel
theorem dL_law__1172 : decode cL_law_ 1172 = .ok (.iload 4, 2) := by decide +kernel
theorem dL_law__1174 : decode cL_law_ 1174 = .ok (.iconst 2, 1) := by decide +kernel
theorem dL_law__1175 : decode cL_law_ 1175 = .ok (.iadd, 1) := by decide +kernel
theorem dL_law__1176 : decode cL_law_ 1176 = .ok (.iaload, 1) := by decide +kernel
theorem dL_law__1177 : decode cL_law_ 1177 = .ok (.aload_n 0, 1) := by decide +kernel
theorem dL_law__1178 : decode cL_law_ 1178 = .ok (.iload 4, 2) := by decide +kernel
theorem dL_law__1180 : decode cL_law_ 1180 = .ok (.iconst 3, 1) := by decide +kernel
theorem dL_law__1181 : decode cL_law_ 1181 = .ok (.iadd, 1) := by decide +kernel
theorem dL_law__1182 : decode cL_law_ 1182 = .ok (.iaload, 1) := by decide +kernel
theorem dL_law__1183 : decode cL_law_ 1183 = .ok (.aload_n 0, 1) := by decide +kernel
theorem dL_law__1184 : decode cL_law_ 1184 = .ok (.iload 4, 2) := by decide +kernel
theorem dL_law__1186 : decode cL_law_ 1186 = .ok (.iconst 4, 1) := by decide +kernel
theorem dL_law__1187 : decode cL_law_ 1187 = .ok (.iadd, 1) := by decide +kernel
theorem dL_law__1188 : decode cL_law_ 1188 = .ok (.iaload, 1) := by decide +kernel
theorem dL_law__1189 : decode cL_law_ 1189 = .ok (.invokevirtual 136, 3) := by decide +kernel
theorem dL_law__1192 : decode cL_law_ 1192 = .ok (.istore 6, 2) := by decide +kernel
theorem dL_law__1194 : decode cL_law_ 1194 = .ok (.aload_n 2, 1) := by decide +kernel
theorem dL_law__1195 : decode cL_law_ 1195 = .ok (.invokevirtual 89, 3) := by decide +kernel
theorem dL_law__1198 : decode cL_law_ 1198 = .ok (.iload 5, 2) := by decide +kernel
theorem dL_law__1200 : decode cL_law_ 1200 = .ok (.if_icmp .eq 5, 3) := by decide +kernel
theorem dL_law__1203 : decode cL_law_ 1203 = .ok (.iconst 0, 1) := by decide +kernel
theorem dL_law__1204 : decode cL_law_ 1204 = .ok (.ireturn, 1) := by decide +kernel
theorem dL_law__1205 : decode cL_law_ 1205 = .ok (.iload 5, 2) := by decide +kernel
theorem dL_law__1207 : decode cL_law_ 1207 = .ok (.ifCond .ne 15, 3) := by decide +kernel
theorem dL_law__1210 : decode cL_law_ 1210 = .ok (.aload_n 3, 1) := by decide +kernel
theorem dL_law__1211 : decode cL_law_ 1211 = .ok (.iconst 0, 1) := by decide +kernel
theorem dL_law__1212 : decode cL_law_ 1212 = .ok (.laload, 1) := by decide +kernel
theorem dL_law__1213 : decode cL_law_ 1213 = .ok (.iload 6, 2) := by decide +kernel
theorem dL_law__1215 : decode cL_law_ 1215 = .ok (.i2l, 1) := by decide +kernel
theorem dL_law__1216 : decode cL_law_ 1216 = .ok (.lcmp, 1) := by decide +kernel
theorem dL_law__1217 : decode cL_law_ 1217 = .ok (.ifCond .eq 5, 3) := by decide +kernel
theorem dL_law__1220 : decode cL_law_ 1220 = .ok (.iconst 0, 1) := by decide +kernel
theorem dL_law__1221 : decode cL_law_ 1221 = .ok (.ireturn, 1) := by decide +kernel
theorem dL_law__1222 : decode cL_law_ 1222 = .ok (.goto 471, 3) := by decide +kernel
theorem dL_law__1225 : decode cL_law_ 1225 = .ok (.aload_n 1, 1) := by decide +kernel
theorem dL_law__1226 : decode cL_law_ 1226 = .ok (.aload_n 0, 1) := by decide +kernel
theorem dL_law__1227 : decode cL_law_ 1227 = .ok (.iload 4, 2) := by decide +kernel
theorem dL_law__1229 : decode cL_law_ 1229 = .ok (.iconst 1, 1) := by decide +kernel
theorem dL_law__1230 : decode cL_law_ 1230 = .ok (.iadd, 1) := by decide +kernel
theorem dL_law__1231 : decode cL_law_ 1231 = .ok (.iaload, 1) := by decide +kernel
theorem dL_law__1232 : decode cL_law_ 1232 = .ok (.aload_n 0, 1) := by decide +kernel
theorem dL_law__1233 : decode cL_law_ 1233 = .ok (.iload 4, 2) := by decide +kernel
theorem dL_law__1235 : decode cL_law_ 1235 = .ok (.iconst 2, 1) := by decide +kernel
theorem dL_law__1236 : decode cL_law_ 1236 = .ok (.iadd, 1) := by decide +kernel
theorem dL_law__1237 : decode cL_law_ 1237 = .ok (.iaload, 1) := by decide +kernel
theorem dL_law__1238 : decode cL_law_ 1238 = .ok (.aload_n 3, 1) := by decide +kernel
theorem dL_law__1239 : decode cL_law_ 1239 = .ok (.invokestatic 137, 3) := by decide +kernel
theorem dL_law__1242 : decode cL_law_ 1242 = .ok (.istore 5, 2) := by decide +kernel
theorem dL_law__1244 : decode cL_law_ 1244 = .ok (.aload_n 2, 1) := by decide +kernel
theorem dL_law__1245 : decode cL_law_ 1245 = .ok (.aload_n 0, 1) := by decide +kernel
theorem dL_law__1246 : decode cL_law_ 1246 = .ok (.iload 4, 2) := by decide +kernel
theorem dL_law__1248 : decode cL_law_ 1248 = .ok (.iconst 1, 1) := by decide +kernel
theorem dL_law__1249 : decode cL_law_ 1249 = .ok (.iadd, 1) := by decide +kernel
theorem dL_law__1250 : decode cL_law_ 1250 = .ok (.iaload, 1) := by decide +kernel
theorem dL_law__1251 : decode cL_law_ 1251 = .ok (.aload_n 0, 1) := by decide +kernel
theorem dL_law__1252 : decode cL_law_ 1252 = .ok (.iload 4, 2) := by decide +kernel
theorem dL_law__1254 : decode cL_law_ 1254 = .ok (.iconst 2, 1) := by decide +kernel
theorem dL_law__1255 : decode cL_law_ 1255 = .ok (.iadd, 1) := by decide +kernel
theorem dL_law__1256 : decode cL_law_ 1256 = .ok (.iaload, 1) := by decide +kernel
theorem dL_law__1257 : decode cL_law_ 1257 = .ok (.invokevirtual 139, 3) := by decide +kernel
theorem dL_law__1260 : decode cL_law_ 1260 = .ok (.istore 6, 2) := by decide +kernel
theorem dL_law__1262 : decode cL_law_ 1262 = .ok (.aload_n 2, 1) := by decide +kernel
theorem dL_law__1263 : decode cL_law_ 1263 = .ok (.invokevirtual 89, 3) := by decide +kernel
theorem dL_law__1266 : decode cL_law_ 1266 = .ok (.iload 5, 2) := by decide +kernel
theorem dL_law__1268 : decode cL_law_ 1268 = .ok (.if_icmp .eq 5, 3) := by decide +kernel
theorem dL_law__1271 : decode cL_law_ 1271 = .ok (.iconst 0, 1) := by decide +kernel
theorem dL_law__1272 : decode cL_law_ 1272 = .ok (.ireturn, 1) := by decide +kernel
theorem dL_law__1273 : decode cL_law_ 1273 = .ok (.iload 5, 2) := by decide +kernel
theorem dL_law__1275 : decode cL_law_ 1275 = .ok (.ifCond .ne 15, 3) := by decide +kernel
theorem dL_law__1278 : decode cL_law_ 1278 = .ok (.aload_n 3, 1) := by decide +kernel
theorem dL_law__1279 : decode cL_law_ 1279 = .ok (.iconst 0, 1) := by decide +kernel
theorem dL_law__1280 : decode cL_law_ 1280 = .ok (.laload, 1) := by decide +kernel
theorem dL_law__1281 : decode cL_law_ 1281 = .ok (.iload 6, 2) := by decide +kernel
theorem dL_law__1283 : decode cL_law_ 1283 = .ok (.i2l, 1) := by decide +kernel
theorem dL_law__1284 : decode cL_law_ 1284 = .ok (.lcmp, 1) := by decide +kernel
theorem dL_law__1285 : decode cL_law_ 1285 = .ok (.ifCond .eq 5, 3) := by decide +kernel
theorem dL_law__1288 : decode cL_law_ 1288 = .ok (.iconst 0, 1) := by decide +kernel
theorem dL_law__1289 : decode cL_law_ 1289 = .ok (.ireturn, 1) := by decide +kernel
theorem dL_law__1290 : decode cL_law_ 1290 = .ok (.goto 403, 3) := by decide +kernel
theorem dL_law__1293 : decode cL_law_ 1293 = .ok (.aload_n 1, 1) := by decide +kernel
theorem dL_law__1294 : decode cL_law_ 1294 = .ok (.aload_n 0, 1) := by decide +kernel
theorem dL_law__1295 : decode cL_law_ 1295 = .ok (.iload 4, 2) := by decide +kernel
theorem dL_law__1297 : decode cL_law_ 1297 = .ok (.iconst 1, 1) := by decide +kernel
theorem dL_law__1298 : decode cL_law_ 1298 = .ok (.iadd, 1) := by decide +kernel
theorem dL_law__1299 : decode cL_law_ 1299 = .ok (.iaload, 1) := by decide +kernel
theorem dL_law__1300 : decode cL_law_ 1300 = .ok (.aload_n 0, 1) := by decide +kernel
theorem dL_law__1301 : decode cL_law_ 1301 = .ok (.iload 4, 2) := by decide +kernel
theorem dL_law__1303 : decode cL_law_ 1303 = .ok (.iconst 2, 1) := by decide +kernel
theorem dL_law__1304 : decode cL_law_ 1304 = .ok (.iadd, 1) := by decide +kernel
theorem dL_law__1305 : decode cL_law_ 1305 = .ok (.iaload, 1) := by decide +kernel
theorem dL_law__1306 : decode cL_law_ 1306 = .ok (.aload_n 0, 1) := by decide +kernel
theorem dL_law__1307 : decode cL_law_ 1307 = .ok (.iload 4, 2) := by decide +kernel
theorem dL_law__1309 : decode cL_law_ 1309 = .ok (.iconst 3, 1) := by decide +kernel
theorem dL_law__1310 : decode cL_law_ 1310 = .ok (.iadd, 1) := by decide +kernel
theorem dL_law__1311 : decode cL_law_ 1311 = .ok (.iaload, 1) := by decide +kernel
theorem dL_law__1312 : decode cL_law_ 1312 = .ok (.aload_n 0, 1) := by decide +kernel
theorem dL_law__1313 : decode cL_law_ 1313 = .ok (.iload 4, 2) := by decide +kernel
theorem dL_law__1315 : decode cL_law_ 1315 = .ok (.iconst 4, 1) := by decide +kernel
theorem dL_law__1316 : decode cL_law_ 1316 = .ok (.iadd, 1) := by decide +kernel
theorem dL_law__1317 : decode cL_law_ 1317 = .ok (.iaload, 1) := by decide +kernel
theorem dL_law__1318 : decode cL_law_ 1318 = .ok (.aload_n 3, 1) := by decide +kernel
theorem dL_law__1319 : decode cL_law_ 1319 = .ok (.invokestatic 140, 3) := by decide +kernel
theorem dL_law__1322 : decode cL_law_ 1322 = .ok (.istore 5, 2) := by decide +kernel
theorem dL_law__1324 : decode cL_law_ 1324 = .ok (.aload_n 2, 1) := by decide +kernel
theorem dL_law__1325 : decode cL_law_ 1325 = .ok (.aload_n 0, 1) := by decide +kernel
theorem dL_law__1326 : decode cL_law_ 1326 = .ok (.iload 4, 2) := by decide +kernel
theorem dL_law__1328 : decode cL_law_ 1328 = .ok (.iconst 1, 1) := by decide +kernel
theorem dL_law__1329 : decode cL_law_ 1329 = .ok (.iadd, 1) := by decide +kernel
theorem dL_law__1330 : decode cL_law_ 1330 = .ok (.iaload, 1) := by decide +kernel
theorem dL_law__1331 : decode cL_law_ 1331 = .ok (.aload_n 0, 1) := by decide +kernel
theorem dL_law__1332 : decode cL_law_ 1332 = .ok (.iload 4, 2) := by decide +kernel
theorem dL_law__1334 : decode cL_law_ 1334 = .ok (.iconst 2, 1) := by decide +kernel
theorem dL_law__1335 : decode cL_law_ 1335 = .ok (.iadd, 1) := by decide +kernel
theorem dL_law__1336 : decode cL_law_ 1336 = .ok (.iaload, 1) := by decide +kernel
theorem dL_law__1337 : decode cL_law_ 1337 = .ok (.aload_n 0, 1) := by decide +kernel
theorem dL_law__1338 : decode cL_law_ 1338 = .ok (.iload 4, 2) := by decide +kernel
theorem dL_law__1340 : decode cL_law_ 1340 = .ok (.iconst 3, 1) := by decide +kernel
theorem dL_law__1341 : decode cL_law_ 1341 = .ok (.iadd, 1) := by decide +kernel
theorem dL_law__1342 : decode cL_law_ 1342 = .ok (.iaload, 1) := by decide +kernel
theorem dL_law__1343 : decode cL_law_ 1343 = .ok (.aload_n 0, 1) := by decide +kernel
theorem dL_law__1344 : decode cL_law_ 1344 = .ok (.iload 4, 2) := by decide +kernel
theorem dL_law__1346 : decode cL_law_ 1346 = .ok (.iconst 4, 1) := by decide +kernel
theorem dL_law__1347 : decode cL_law_ 1347 = .ok (.iadd, 1) := by decide +kernel
theorem dL_law__1348 : decode cL_law_ 1348 = .ok (.iaload, 1) := by decide +kernel
theorem dL_law__1349 : decode cL_law_ 1349 = .ok (.invokevirtual 142, 3) := by decide +kernel
theorem dL_law__1352 : decode cL_law_ 1352 = .ok (.istore 6, 2) := by decide +kernel
theorem dL_law__1354 : decode cL_law_ 1354 = .ok (.aload_n 2, 1) := by decide +kernel
theorem dL_law__1355 : decode cL_law_ 1355 = .ok (.invokevirtual 89, 3) := by decide +kernel
theorem dL_law__1358 : decode cL_law_ 1358 = .ok (.iload 5, 2) := by decide +kernel
theorem dL_law__1360 : decode cL_law_ 1360 = .ok (.if_icmp .eq 5, 3) := by decide +kernel
theorem dL_law__1363 : decode cL_law_ 1363 = .ok (.iconst 0, 1) := by decide +kernel
theorem dL_law__1364 : decode cL_law_ 1364 = .ok (.ireturn, 1) := by decide +kernel
theorem dL_law__1365 : decode cL_law_ 1365 = .ok (.iload 5, 2) := by decide +kernel
theorem dL_law__1367 : decode cL_law_ 1367 = .ok (.ifCond .ne 15, 3) := by decide +kernel
theorem dL_law__1370 : decode cL_law_ 1370 = .ok (.aload_n 3, 1) := by decide +kernel
theorem dL_law__1371 : decode cL_law_ 1371 = .ok (.iconst 0, 1) := by decide +kernel
theorem dL_law__1372 : decode cL_law_ 1372 = .ok (.laload, 1) := by decide +kernel
theorem dL_law__1373 : decode cL_law_ 1373 = .ok (.iload 6, 2) := by decide +kernel
theorem dL_law__1375 : decode cL_law_ 1375 = .ok (.i2l, 1) := by decide +kernel
theorem dL_law__1376 : decode cL_law_ 1376 = .ok (.lcmp, 1) := by decide +kernel
theorem dL_law__1377 : decode cL_law_ 1377 = .ok (.ifCond .eq 5, 3) := by decide +kernel
theorem dL_law__1380 : decode cL_law_ 1380 = .ok (.iconst 0, 1) := by decide +kernel
theorem dL_law__1381 : decode cL_law_ 1381 = .ok (.ireturn, 1) := by decide +kernel
theorem dL_law__1382 : decode cL_law_ 1382 = .ok (.goto 311, 3) := by decide +kernel
theorem dL_law__1385 : decode cL_law_ 1385 = .ok (.aload_n 1, 1) := by decide +kernel
theorem dL_law__1386 : decode cL_law_ 1386 = .ok (.aload_n 0, 1) := by decide +kernel
theorem dL_law__1387 : decode cL_law_ 1387 = .ok (.iload 4, 2) := by decide +kernel
theorem dL_law__1389 : decode cL_law_ 1389 = .ok (.iconst 1, 1) := by decide +kernel
theorem dL_law__1390 : decode cL_law_ 1390 = .ok (.iadd, 1) := by decide +kernel
theorem dL_law__1391 : decode cL_law_ 1391 = .ok (.iaload, 1) := by decide +kernel
theorem dL_law__1392 : decode cL_law_ 1392 = .ok (.aload_n 0, 1) := by decide +kernel
theorem dL_law__1393 : decode cL_law_ 1393 = .ok (.iload 4, 2) := by decide +kernel
theorem dL_law__1395 : decode cL_law_ 1395 = .ok (.iconst 2, 1) := by decide +kernel
theorem dL_law__1396 : decode cL_law_ 1396 = .ok (.iadd, 1) := by decide +kernel
theorem dL_law__1397 : decode cL_law_ 1397 = .ok (.iaload, 1) := by decide +kernel
theorem dL_law__1398 : decode cL_law_ 1398 = .ok (.aload_n 0, 1) := by decide +kernel
theorem dL_law__1399 : decode cL_law_ 1399 = .ok (.iload 4, 2) := by decide +kernel
theorem dL_law__1401 : decode cL_law_ 1401 = .ok (.iconst 3, 1) := by decide +kernel
theorem dL_law__1402 : decode cL_law_ 1402 = .ok (.iadd, 1) := by decide +kernel
theorem dL_law__1403 : decode cL_law_ 1403 = .ok (.iaload, 1) := by decide +kernel
theorem dL_law__1404 : decode cL_law_ 1404 = .ok (.aload_n 0, 1) := by decide +kernel
theorem dL_law__1405 : decode cL_law_ 1405 = .ok (.iload 4, 2) := by decide +kernel
theorem dL_law__1407 : decode cL_law_ 1407 = .ok (.iconst 4, 1) := by decide +kernel
theorem dL_law__1408 : decode cL_law_ 1408 = .ok (.iadd, 1) := by decide +kernel
theorem dL_law__1409 : decode cL_law_ 1409 = .ok (.iaload, 1) := by decide +kernel
theorem dL_law__1410 : decode cL_law_ 1410 = .ok (.aload_n 3, 1) := by decide +kernel
theorem dL_law__1411 : decode cL_law_ 1411 = .ok (.invokestatic 143, 3) := by decide +kernel
theorem dL_law__1414 : decode cL_law_ 1414 = .ok (.istore 5, 2) := by decide +kernel
theorem dL_law__1416 : decode cL_law_ 1416 = .ok (.aload_n 2, 1) := by decide +kernel
theorem dL_law__1417 : decode cL_law_ 1417 = .ok (.aload_n 0, 1) := by decide +kernel
theorem dL_law__1418 : decode cL_law_ 1418 = .ok (.iload 4, 2) := by decide +kernel
theorem dL_law__1420 : decode cL_law_ 1420 = .ok (.iconst 1, 1) := by decide +kernel
theorem dL_law__1421 : decode cL_law_ 1421 = .ok (.iadd, 1) := by decide +kernel
theorem dL_law__1422 : decode cL_law_ 1422 = .ok (.iaload, 1) := by decide +kernel
theorem dL_law__1423 : decode cL_law_ 1423 = .ok (.aload_n 0, 1) := by decide +kernel
theorem dL_law__1424 : decode cL_law_ 1424 = .ok (.iload 4, 2) := by decide +kernel
theorem dL_law__1426 : decode cL_law_ 1426 = .ok (.iconst 2, 1) := by decide +kernel
theorem dL_law__1427 : decode cL_law_ 1427 = .ok (.iadd, 1) := by decide +kernel
theorem dL_law__1428 : decode cL_law_ 1428 = .ok (.iaload, 1) := by decide +kernel
theorem dL_law__1429 : decode cL_law_ 1429 = .ok (.aload_n 0, 1) := by decide +kernel
theorem dL_law__1430 : decode cL_law_ 1430 = .ok (.iload 4, 2) := by decide +kernel
theorem dL_law__1432 : decode cL_law_ 1432 = .ok (.iconst 3, 1) := by decide +kernel
theorem dL_law__1433 : decode cL_law_ 1433 = .ok (.iadd, 1) := by decide +kernel
theorem dL_law__1434 : decode cL_law_ 1434 = .ok (.iaload, 1) := by decide +kernel
theorem dL_law__1435 : decode cL_law_ 1435 = .ok (.aload_n 0, 1) := by decide +kernel
theorem dL_law__1436 : decode cL_law_ 1436 = .ok (.iload 4, 2) := by decide +kernel
theorem dL_law__1438 : decode cL_law_ 1438 = .ok (.iconst 4, 1) := by decide +kernel
theorem dL_law__1439 : decode cL_law_ 1439 = .ok (.iadd, 1) := by decide +kernel
theorem dL_law__1440 : decode cL_law_ 1440 = .ok (.iaload, 1) := by decide +kernel
theorem dL_law__1441 : decode cL_law_ 1441 = .ok (.invokevirtual 145, 3) := by decide +kernel
theorem dL_law__1444 : decode cL_law_ 1444 = .ok (.istore 6, 2) := by decide +kernel
theorem dL_law__1446 : decode cL_law_ 1446 = .ok (.aload_n 2, 1) := by decide +kernel
theorem dL_law__1447 : decode cL_law_ 1447 = .ok (.invokevirtual 89, 3) := by decide +kernel
theorem dL_law__1450 : decode cL_law_ 1450 = .ok (.iload 5, 2) := by decide +kernel
theorem dL_law__1452 : decode cL_law_ 1452 = .ok (.if_icmp .eq 5, 3) := by decide +kernel
theorem dL_law__1455 : decode cL_law_ 1455 = .ok (.iconst 0, 1) := by decide +kernel
theorem dL_law__1456 : decode cL_law_ 1456 = .ok (.ireturn, 1) := by decide +kernel
theorem dL_law__1457 : decode cL_law_ 1457 = .ok (.iload 5, 2) := by decide +kernel
theorem dL_law__1459 : decode cL_law_ 1459 = .ok (.ifCond .ne 15, 3) := by decide +kernel
theorem dL_law__1462 : decode cL_law_ 1462 = .ok (.aload_n 3, 1) := by decide +kernel
theorem dL_law__1463 : decode cL_law_ 1463 = .ok (.iconst 0, 1) := by decide +kernel
theorem dL_law__1464 : decode cL_law_ 1464 = .ok (.laload, 1) := by decide +kernel
theorem dL_law__1465 : decode cL_law_ 1465 = .ok (.iload 6, 2) := by decide +kernel
theorem dL_law__1467 : decode cL_law_ 1467 = .ok (.i2l, 1) := by decide +kernel
theorem dL_law__1468 : decode cL_law_ 1468 = .ok (.lcmp, 1) := by decide +kernel
theorem dL_law__1469 : decode cL_law_ 1469 = .ok (.ifCond .eq 5, 3) := by decide +kernel
theorem dL_law__1472 : decode cL_law_ 1472 = .ok (.iconst 0, 1) := by decide +kernel
theorem dL_law__1473 : decode cL_law_ 1473 = .ok (.ireturn, 1) := by decide +kernel
theorem dL_law__1474 : decode cL_law_ 1474 = .ok (.goto 219, 3) := by decide +kernel
theorem dL_law__1477 : decode cL_law_ 1477 = .ok (.aload_n 1, 1) := by decide +kernel
theorem dL_law__1478 : decode cL_law_ 1478 = .ok (.aload_n 0, 1) := by decide +kernel
theorem dL_law__1479 : decode cL_law_ 1479 = .ok (.iload 4, 2) := by decide +kernel
theorem dL_law__1481 : decode cL_law_ 1481 = .ok (.iconst 1, 1) := by decide +kernel
theorem dL_law__1482 : decode cL_law_ 1482 = .ok (.iadd, 1) := by decide +kernel
theorem dL_law__1483 : decode cL_law_ 1483 = .ok (.iaload, 1) := by decide +kernel
theorem dL_law__1484 : decode cL_law_ 1484 = .ok (.aload_n 0, 1) := by decide +kernel
theorem dL_law__1485 : decode cL_law_ 1485 = .ok (.iload 4, 2) := by decide +kernel
theorem dL_law__1487 : decode cL_law_ 1487 = .ok (.iconst 2, 1) := by decide +kernel
theorem dL_law__1488 : decode cL_law_ 1488 = .ok (.iadd, 1) := by decide +kernel
theorem dL_law__1489 : decode cL_law_ 1489 = .ok (.iaload, 1) := by decide +kernel
theorem dL_law__1490 : decode cL_law_ 1490 = .ok (.aload_n 3, 1) := by decide +kernel
theorem dL_law__1491 : decode cL_law_ 1491 = .ok (.invokestatic 146, 3) := by decide +kernel
theorem dL_law__1494 : decode cL_law_ 1494 = .ok (.istore 5, 2) := by decide +kernel
theorem dL_law__1496 : decode cL_law_ 1496 = .ok (.aload_n 2, 1) := by decide +kernel
theorem dL_law__1497 : decode cL_law_ 1497 = .ok (.aload_n 0, 1) := by decide +kernel
theorem dL_law__1498 : decode cL_law_ 1498 = .ok (.iload 4, 2) := by decide +kernel
theorem dL_law__1500 : decode cL_law_ 1500 = .ok (.iconst 1, 1) := by decide +kernel
theorem dL_law__1501 : decode cL_law_ 1501 = .ok (.iadd, 1) := by decide +kernel
theorem dL_law__1502 : decode cL_law_ 1502 = .ok (.iaload, 1) := by decide +kernel
theorem dL_law__1503 : decode cL_law_ 1503 = .ok (.aload_n 0, 1) := by decide +kernel
theorem dL_law__1504 : decode cL_law_ 1504 = .ok (.iload 4, 2) := by decide +kernel
theorem dL_law__1506 : decode cL_law_ 1506 = .ok (.iconst 2, 1) := by decide +kernel
theorem dL_law__1507 : decode cL_law_ 1507 = .ok (.iadd, 1) := by decide +kernel
theorem dL_law__1508 : decode cL_law_ 1508 = .ok (.iaload, 1) := by decide +kernel
theorem dL_law__1509 : decode cL_law_ 1509 = .ok (.invokevirtual 148, 3) := by decide +kernel
theorem dL_law__1512 : decode cL_law_ 1512 = .ok (.istore 6, 2) := by decide +kernel
theorem dL_law__1514 : decode cL_law_ 1514 = .ok (.aload_n 2, 1) := by decide +kernel
theorem dL_law__1515 : decode cL_law_ 1515 = .ok (.invokevirtual 89, 3) := by decide +kernel
theorem dL_law__1518 : decode cL_law_ 1518 = .ok (.iload 5, 2) := by decide +kernel
theorem dL_law__1520 : decode cL_law_ 1520 = .ok (.if_icmp .eq 5, 3) := by decide +kernel
theorem dL_law__1523 : decode cL_law_ 1523 = .ok (.iconst 0, 1) := by decide +kernel
theorem dL_law__1524 : decode cL_law_ 1524 = .ok (.ireturn, 1) := by decide +kernel
theorem dL_law__1525 : decode cL_law_ 1525 = .ok (.iload 5, 2) := by decide +kernel
theorem dL_law__1527 : decode cL_law_ 1527 = .ok (.ifCond .ne 15, 3) := by decide +kernel
theorem dL_law__1530 : decode cL_law_ 1530 = .ok (.aload_n 3, 1) := by decide +kernel
theorem dL_law__1531 : decode cL_law_ 1531 = .ok (.iconst 0, 1) := by decide +kernel
theorem dL_law__1532 : decode cL_law_ 1532 = .ok (.laload, 1) := by decide +kernel
theorem dL_law__1533 : decode cL_law_ 1533 = .ok (.iload 6, 2) := by decide +kernel
theorem dL_law__1535 : decode cL_law_ 1535 = .ok (.i2l, 1) := by decide +kernel
theorem dL_law__1536 : decode cL_law_ 1536 = .ok (.lcmp, 1) := by decide +kernel
theorem dL_law__1537 : decode cL_law_ 1537 = .ok (.ifCond .eq 5, 3) := by decide +kernel
theorem dL_law__1540 : decode cL_law_ 1540 = .ok (.iconst 0, 1) := by decide +kernel
theorem dL_law__1541 : decode cL_law_ 1541 = .ok (.ireturn, 1) := by decide +kernel
theorem dL_law__1542 : decode cL_law_ 1542 = .ok (.goto 151, 3) := by decide +kernel
theorem dL_law__1545 : decode cL_law_ 1545 = .ok (.aload_n 1, 1) := by decide +kernel
theorem dL_law__1546 : decode cL_law_ 1546 = .ok (.aload_n 0, 1) := by decide +kernel
theorem dL_law__1547 : decode cL_law_ 1547 = .ok (.iload 4, 2) := by decide +kernel
theorem dL_law__1549 : decode cL_law_ 1549 = .ok (.iconst 1, 1) := by decide +kernel
theorem dL_law__1550 : decode cL_law_ 1550 = .ok (.iadd, 1) := by decide +kernel
theorem dL_law__1551 : decode cL_law_ 1551 = .ok (.iaload, 1) := by decide +kernel
theorem dL_law__1552 : decode cL_law_ 1552 = .ok (.aload_n 0, 1) := by decide +kernel
theorem dL_law__1553 : decode cL_law_ 1553 = .ok (.iload 4, 2) := by decide +kernel
theorem dL_law__1555 : decode cL_law_ 1555 = .ok (.iconst 2, 1) := by decide +kernel
theorem dL_law__1556 : decode cL_law_ 1556 = .ok (.iadd, 1) := by decide +kernel
theorem dL_law__1557 : decode cL_law_ 1557 = .ok (.iaload, 1) := by decide +kernel
theorem dL_law__1558 : decode cL_law_ 1558 = .ok (.aload_n 0, 1) := by decide +kernel
theorem dL_law__1559 : decode cL_law_ 1559 = .ok (.iload 4, 2) := by decide +kernel
theorem dL_law__1561 : decode cL_law_ 1561 = .ok (.iconst 3, 1) := by decide +kernel
theorem dL_law__1562 : decode cL_law_ 1562 = .ok (.iadd, 1) := by decide +kernel
theorem dL_law__1563 : decode cL_law_ 1563 = .ok (.iaload, 1) := by decide +kernel
theorem dL_law__1564 : decode cL_law_ 1564 = .ok (.aload_n 3, 1) := by decide +kernel
theorem dL_law__1565 : decode cL_law_ 1565 = .ok (.invokestatic 149, 3) := by decide +kernel
theorem dL_law__1568 : decode cL_law_ 1568 = .ok (.istore 5, 2) := by decide +kernel
theorem dL_law__1570 : decode cL_law_ 1570 = .ok (.aload_n 2, 1) := by decide +kernel
theorem dL_law__1571 : decode cL_law_ 1571 = .ok (.aload_n 0, 1) := by decide +kernel
theorem dL_law__1572 : decode cL_law_ 1572 = .ok (.iload 4, 2) := by decide +kernel
theorem dL_law__1574 : decode cL_law_ 1574 = .ok (.iconst 1, 1) := by decide +kernel
theorem dL_law__1575 : decode cL_law_ 1575 = .ok (.iadd, 1) := by decide +kernel
theorem dL_law__1576 : decode cL_law_ 1576 = .ok (.iaload, 1) := by decide +kernel
theorem dL_law__1577 : decode cL_law_ 1577 = .ok (.aload_n 0, 1) := by decide +kernel
theorem dL_law__1578 : decode cL_law_ 1578 = .ok (.iload 4, 2) := by decide +kernel
theorem dL_law__1580 : decode cL_law_ 1580 = .ok (.iconst 2, 1) := by decide +kernel
theorem dL_law__1581 : decode cL_law_ 1581 = .ok (.iadd, 1) := by decide +kernel
theorem dL_law__1582 : decode cL_law_ 1582 = .ok (.iaload, 1) := by decide +kernel
theorem dL_law__1583 : decode cL_law_ 1583 = .ok (.aload_n 0, 1) := by decide +kernel
theorem dL_law__1584 : decode cL_law_ 1584 = .ok (.iload 4, 2) := by decide +kernel
theorem dL_law__1586 : decode cL_law_ 1586 = .ok (.iconst 3, 1) := by decide +kernel
theorem dL_law__1587 : decode cL_law_ 1587 = .ok (.iadd, 1) := by decide +kernel
theorem dL_law__1588 : decode cL_law_ 1588 = .ok (.iaload, 1) := by decide +kernel
theorem dL_law__1589 : decode cL_law_ 1589 = .ok (.invokevirtual 151, 3) := by decide +kernel
theorem dL_law__1592 : decode cL_law_ 1592 = .ok (.istore 6, 2) := by decide +kernel
theorem dL_law__1594 : decode cL_law_ 1594 = .ok (.aload_n 2, 1) := by decide +kernel
theorem dL_law__1595 : decode cL_law_ 1595 = .ok (.invokevirtual 89, 3) := by decide +kernel
theorem dL_law__1598 : decode cL_law_ 1598 = .ok (.iload 5, 2) := by decide +kernel
theorem dL_law__1600 : decode cL_law_ 1600 = .ok (.if_icmp .eq 5, 3) := by decide +kernel
theorem dL_law__1603 : decode cL_law_ 1603 = .ok (.iconst 0, 1) := by decide +kernel
theorem dL_law__1604 : decode cL_law_ 1604 = .ok (.ireturn, 1) := by decide +kernel
theorem dL_law__1605 : decode cL_law_ 1605 = .ok (.iload 5, 2) := by decide +kernel
theorem dL_law__1607 : decode cL_law_ 1607 = .ok (.ifCond .ne 15, 3) := by decide +kernel
theorem dL_law__1610 : decode cL_law_ 1610 = .ok (.aload_n 3, 1) := by decide +kernel
theorem dL_law__1611 : decode cL_law_ 1611 = .ok (.iconst 0, 1) := by decide +kernel
theorem dL_law__1612 : decode cL_law_ 1612 = .ok (.laload, 1) := by decide +kernel
theorem dL_law__1613 : decode cL_law_ 1613 = .ok (.iload 6, 2) := by decide +kernel
theorem dL_law__1615 : decode cL_law_ 1615 = .ok (.i2l, 1) := by decide +kernel
theorem dL_law__1616 : decode cL_law_ 1616 = .ok (.lcmp, 1) := by decide +kernel
theorem dL_law__1617 : decode cL_law_ 1617 = .ok (.ifCond .eq 5, 3) := by decide +kernel
theorem dL_law__1620 : decode cL_law_ 1620 = .ok (.iconst 0, 1) := by decide +kernel
theorem dL_law__1621 : decode cL_law_ 1621 = .ok (.ireturn, 1) := by decide +kernel
theorem dL_law__1622 : decode cL_law_ 1622 = .ok (.goto 71, 3) := by decide +kernel
theorem dL_law__1625 : decode cL_law_ 1625 = .ok (.aload_n 1, 1) := by decide +kernel
theorem dL_law__1626 : decode cL_law_ 1626 = .ok (.aload_n 0, 1) := by decide +kernel
theorem dL_law__1627 : decode cL_law_ 1627 = .ok (.iload 4, 2) := by decide +kernel
theorem dL_law__1629 : decode cL_law_ 1629 = .ok (.iconst 1, 1) := by decide +kernel
theorem dL_law__1630 : decode cL_law_ 1630 = .ok (.iadd, 1) := by decide +kernel
theorem dL_law__1631 : decode cL_law_ 1631 = .ok (.iaload, 1) := by decide +kernel
theorem dL_law__1632 : decode cL_law_ 1632 = .ok (.aload_n 0, 1) := by decide +kernel
theorem dL_law__1633 : decode cL_law_ 1633 = .ok (.iload 4, 2) := by decide +kernel
theorem dL_law__1635 : decode cL_law_ 1635 = .ok (.iconst 2, 1) := by decide +kernel
theorem dL_law__1636 : decode cL_law_ 1636 = .ok (.iadd, 1) := by decide +kernel
theorem dL_law__1637 : decode cL_law_ 1637 = .ok (.iaload, 1) := by decide +kernel
theorem dL_law__1638 : decode cL_law_ 1638 = .ok (.aload_n 3, 1) := by decide +kernel
theorem dL_law__1639 : decode cL_law_ 1639 = .ok (.invokestatic 152, 3) := by decide +kernel
theorem dL_law__1642 : decode cL_law_ 1642 = .ok (.istore 5, 2) := by decide +kernel
theorem dL_law__1644 : decode cL_law_ 1644 = .ok (.aload_n 2, 1) := by decide +kernel
theorem dL_law__1645 : decode cL_law_ 1645 = .ok (.aload_n 0, 1) := by decide +kernel
theorem dL_law__1646 : decode cL_law_ 1646 = .ok (.iload 4, 2) := by decide +kernel
theorem dL_law__1648 : decode cL_law_ 1648 = .ok (.iconst 1, 1) := by decide +kernel
theorem dL_law__1649 : decode cL_law_ 1649 = .ok (.iadd, 1) := by decide +kernel
theorem dL_law__1650 : decode cL_law_ 1650 = .ok (.iaload, 1) := by decide +kernel
theorem dL_law__1651 : decode cL_law_ 1651 = .ok (.aload_n 0, 1) := by decide +kernel
theorem dL_law__1652 : decode cL_law_ 1652 = .ok (.iload 4, 2) := by decide +kernel
theorem dL_law__1654 : decode cL_law_ 1654 = .ok (.iconst 2, 1) := by decide +kernel
theorem dL_law__1655 : decode cL_law_ 1655 = .ok (.iadd, 1) := by decide +kernel
theorem dL_law__1656 : decode cL_law_ 1656 = .ok (.iaload, 1) := by decide +kernel
theorem dL_law__1657 : decode cL_law_ 1657 = .ok (.invokevirtual 154, 3) := by decide +kernel
theorem dL_law__1660 : decode cL_law_ 1660 = .ok (.istore 6, 2) := by decide +kernel
theorem dL_law__1662 : decode cL_law_ 1662 = .ok (.aload_n 2, 1) := by decide +kernel
theorem dL_law__1663 : decode cL_law_ 1663 = .ok (.invokevirtual 89, 3) := by decide +kernel
theorem dL_law__1666 : decode cL_law_ 1666 = .ok (.iload 5, 2) := by decide +kernel
theorem dL_law__1668 : decode cL_law_ 1668 = .ok (.if_icmp .eq 5, 3) := by decide +kernel
theorem dL_law__1671 : decode cL_law_ 1671 = .ok (.iconst 0, 1) := by decide +kernel
theorem dL_law__1672 : decode cL_law_ 1672 = .ok (.ireturn, 1) := by decide +kernel
theorem dL_law__1673 : decode cL_law_ 1673 = .ok (.iload 5, 2) := by decide +kernel
theorem dL_law__1675 : decode cL_law_ 1675 = .ok (.ifCond .ne 15, 3) := by decide +kernel
theorem dL_law__1678 : decode cL_law_ 1678 = .ok (.aload_n 3, 1) := by decide +kernel
theorem dL_law__1679 : decode cL_law_ 1679 = .ok (.iconst 0, 1) := by decide +kernel
theorem dL_law__1680 : decode cL_law_ 1680 = .ok (.laload, 1) := by decide +kernel
theorem dL_law__1681 : decode cL_law_ 1681 = .ok (.iload 6, 2) := by decide +kernel
theorem dL_law__1683 : decode cL_law_ 1683 = .ok (.i2l, 1) := by decide +kernel
theorem dL_law__1684 : decode cL_law_ 1684 = .ok (.lcmp, 1) := by decide +kernel
theorem dL_law__1685 : decode cL_law_ 1685 = .ok (.ifCond .eq 5, 3) := by decide +kernel
theorem dL_law__1688 : decode cL_law_ 1688 = .ok (.iconst 0, 1) := by decide +kernel
theorem dL_law__1689 : decode cL_law_ 1689 = .ok (.ireturn, 1) := by decide +kernel
theorem dL_law__1690 : decode cL_law_ 1690 = .ok (.goto 3, 3) := by decide +kernel
theorem dL_law__1693 : decode cL_law_ 1693 = .ok (.iinc 4 6, 3) := by decide +kernel
theorem dL_law__1696 : decode cL_law_ 1696 = .ok (.goto (-1673), 3) := by decide +kernel
theorem dL_law__1699 : decode cL_law_ 1699 = .ok (.iconst 1, 1) := by decide +kernel
theorem dL_law__1700 : decode cL_law_ 1700 = .ok (.ireturn, 1) := by decide +kernel
end
section
/-! THE ABSTRACT WALK. Values are mathematical numbers (an int is an Int, a long is an Int), references are addresses; a heap is a function from addresses to cells, each with a mark of ours (cells with different marks lie apart; marks 0 and 1 are for the script and the static row, which nobody writes).
ab_T: from this place of the method, with these locals, this stack, this heap, the method ends with an outcome and a heap of which Q holds. ab_M: a method's contract. -/
section ABA
abbrev AbV : Type := Int ⊕ (Int ⊕ Option Nat)
abbrev vI (x : Int) : AbV := Sum.inl x
abbrev vL (x : Int) : AbV := Sum.inr (Sum.inl x)
abbrev vO (r : Option Nat) : AbV := Sum.inr (Sum.inr r)
abbrev vR (a : Nat) : AbV := Sum.inr (Sum.inr (some a))
abbrev vN : AbV := Sum.inr (Sum.inr none)
def ab_v (x : AbV) (w : Value) : Prop := match x with
  | .inl i => ∃ v : Int32, w = .int v ∧ v.toInt = i
  | .inr (.inl i) => ∃ v : Int64, w = .long v ∧ v.toInt = i
  | .inr (.inr r) => w = va_rf r
def ab_vs : List AbV → List Value → Prop
  | [], ws => ws = []
  | x :: xs, ws => ∃ (w : Value) (r : List Value), ws = w :: r ∧ ab_v x w ∧ ab_vs xs r
/-- two slots -/
def ab_w (x : AbV) : Nat := match x with
  | .inr (.inl _) => 2
  | _ => 1
def ab_l (L : List (Option AbV)) (ls : Array Slot) : Prop := ls.size = L.length ∧ lv_wf ls ∧ ∀ (k : Nat) (x : AbV), L[k]? = some (some x) → ∃ w : Value, ls[k]? = some (.val w) ∧ ab_v x w
abbrev AbC : Type := Nat × ((Nat × List AbV) ⊕ ((Nat × (Int → Int)) ⊕ ((Nat × (Int → Int)) ⊕ ((Nat × (Int → Int)) ⊕ (String × Nat × (Int → Option Nat))))))
/-- an object: mark, number in ab_cl, fields; rows of ints, longs, booleans, references: mark, length, contents -/
abbrev kO (g i : Nat) (fs : List AbV) : AbC := (g, .inl (i, fs))
abbrev kI (g n : Nat) (f : Int → Int) : AbC := (g, .inr (.inl (n, f)))
abbrev kJ (g n : Nat) (f : Int → Int) : AbC := (g, .inr (.inr (.inl (n, f))))
abbrev kZ (g n : Nat) (f : Int → Int) : AbC := (g, .inr (.inr (.inr (.inl (n, f)))))
abbrev kA (g : Nat) (C : String) (n : Nat) (f : Int → Option Nat) : AbC := (g, .inr (.inr (.inr (.inr (C, n, f)))))
abbrev AbH : Type := Nat → Option AbC
def ab_up (h : AbH) (a : Nat) (c : AbC) : AbH := fun q => if q = a then some c else h q
/-- a row with one number changed -/
def ab_f {α : Type} (f : Int → α) (i : Int) (x : α) : Int → α := fun j => if j = i then x else f j
abbrev ab_cl : List vw_C := [(RX1, TX1, 4), (RX2, TX2, 1), (RX3, TX3, 3), (RX4, TX4, 12), (RX5, TX5, 7), (RX6, TX6, 3), (RX7, TX7, 1), (RX8, TX8, 0), (RX9, TX9, 9), (RX10, TX10, 48)]
/-- the law's start, its arguments, the classes' numbers, the fields' places -/
abbrev AbE : Type := State × Array Value × (Nat → ClassId) × (Nat → Nat → Nat)
def ab_arr (s0 : State) (ty : FieldType) (n : Nat) (P : Nat → Value → Prop) (a : Nat) (H : Heap) : Prop := ∃ cell : Cell, H[a]? = some cell ∧ s0.isArrayOf cell ty ∧ cell.vm ≠ .unknown ∧ cell.slots.size = n ∧ n < 2147483648 ∧ ∀ j : Nat, j < n → ∃ w : Value, cell.slots[j]? = some w ∧ P j w
def ab_i32 (f : Int → Int) (j : Nat) (w : Value) : Prop := ∃ v : Int32, w = .int v ∧ v.toInt = f j
def ab_i64 (f : Int → Int) (j : Nat) (w : Value) : Prop := ∃ v : Int64, w = .long v ∧ v.toInt = f j
def ab_ref (f : Int → Option Nat) (j : Nat) (w : Value) : Prop := w = va_rf (f j)
def ab_cmp (s0 : State) (C : String) (a : Nat) (H : Heap) : Prop := ∃ (cell : Cell) (k : Class) (comp : ClassId), H[a]? = some cell ∧ s0.vm.classes[cell.cls]? = some k ∧ k.kind = .array comp (.object C) ∧ s0.vm.findClass C = some comp
def ab_c (E : AbE) (a : Nat) (c : AbC) (H : Heap) : Prop := match c.2 with
  | .inl o => ∃ (r : vw_C) (ws : List Value), ab_cl[o.1]? = some r ∧ o.2.length = r.2.2 ∧ ab_vs o.2 ws ∧ t_OB a (E.2.2.1 o.1) r.2.2 (E.2.2.2 o.1) H (vp_V ws)
  | .inr (.inl q) => ab_arr E.1 .int q.1 (ab_i32 q.2) a H
  | .inr (.inr (.inl q)) => ab_arr E.1 .long q.1 (ab_i64 q.2) a H
  | .inr (.inr (.inr (.inl q))) => ab_arr E.1 .boolean q.1 (ab_i32 q.2) a H
  | .inr (.inr (.inr (.inr q))) => ab_arr E.1 (.object q.1) q.2.1 (ab_ref q.2.2) a H ∧ ab_cmp E.1 q.1 a H
def ab_old (E : AbE) (H : Heap) : Prop := E.1.heap.size ≤ H.size ∧ ∀ q : Nat, q < E.1.heap.size → H[q]? = E.1.heap[q]?
def ab_P (E : AbE) (h : AbH) (H : Heap) : Prop := ab_old E H ∧ ∀ (a : Nat) (c : AbC), h a = some c → ab_c E a c H ∧ (2 ≤ c.1 → E.1.heap.size ≤ a)
abbrev ab_A (E : AbE) : Nat → Prop := fun q => E.1.heap.size ≤ q
/-- what the launch and the law's start give to everybody -/
def ab_G (l : Launch) (E : AbE) : Prop := l.stackTraces = false ∧ (∀ w ∈ lw_tbl, w.before E.2.1 E.1 = true) ∧ va_K (E.2.2.1, E.2.2.2) ab_cl [] E.1 ∧ vx_Zq Bundle.tN "UNASSIGNED_STACK" Bundle.steD (ab_A E) E.1 E.1.heap ∧ vx_Zq Bundle.tN "SUPPRESSED_SENTINEL" Bundle.listD (ab_A E) E.1 E.1.heap ∧ (Jvm.Cond.and given_1 narrow_1).before E.2.1 E.1 = true
abbrev AbO : Type := Option AbV ⊕ String
def ab_ov (r : Option AbV) (v : Option Value) : Prop := match r with
  | none => v = none
  | some x => ∃ w, v = some w ∧ ab_v x w
def ab_Q (E : AbE) (Q : AbO → AbH → Prop) : Array Value → State → Outcome → State → Prop := fun _ _ o t => ∃ (v : Option Value) (r : Option AbV) (h : AbH), o = .returned v ∧ ab_ov r v ∧ ab_P E h t.heap ∧ Q (.inl r) h
def ab_QX (E : AbE) (Q : AbO → AbH → Prop) : String → State → State → Prop := fun X _ t => ∃ h : AbH, ab_P E h t.heap ∧ Q (.inr X) h
abbrev AbY : Type := MethodName × ByteArray × Option FieldType × List (Nat × Nat × Nat × Nat)
def ab_X (l : Launch) (E : AbE) (y : AbY) (nL : Nat) (p : Program) (s : State) (m : MethodId) (meth : Method) (c : Code) : Prop :=
  p.tables.exec = Jvm.exec ∧ c.code = y.2.1 ∧ c.maxLocals = nL ∧ s.vm.findClass y.1.cls = some m.cls ∧ meth.sig.returnType = y.2.2.1 ∧ meth.locks = false ∧ meth.name = y.1.name ∧ c.exceptionTable.toList = tableOf y.2.2.2 ∧ E.1.WarmedH s.vm ∧ ab_old E s.heap ∧ ab_G l E
def ab_R (d kc ks : Nat) (R : Room) (cells slots mc ms : Nat) : Prop := d ≤ R.frames ∧ 64 * d ≤ R.locals ∧ cells + kc ≤ R.cells ∧ slots + ks ≤ R.slots ∧ cells + kc ≤ mc ∧ slots + ks ≤ ms
def ab_T (l : Launch) (E : AbE) (y : AbY) (d kc ks : Nat) (pc : Nat) (L : List (Option AbV)) (S : List AbV) (h : AbH) (Q : AbO → AbH → Prop) : Prop :=
  ∀ (p : Program) (e : Env) (R : Room) (s : State) (m : MethodId) (args : Array Value) (below : List Frame) (meth : Method) (c : Code) (H : Heap) (locs : List Loc) (cells slots mc ms : Nat) (ls : Array Slot) (st : List Value),
    ab_X l E y L.length p s m meth c → ab_R d kc ks R cells slots mc ms → ab_P E h H → (∀ z ∈ locs, ab_A E z.base) → ab_l L ls → ab_vs S st →
    W p l e R s m args below meth c H locs cells slots (vx_MQ below (ab_Q E Q) (ab_QX E Q) args s mc ms (ab_A E)) (F0 m pc ls st)
def ab_rm (d kc ks : Nat) : Room := { frames := d, cells := kc, slots := ks, locals := 64 * d }
def ab_Pc (E : AbE) (as : List AbV) (h : AbH) : Array Value → State → Prop := fun a s => (∃ ws : List Value, a = ws.toArray ∧ ab_vs as ws) ∧ ab_P E h s.heap ∧ E.1.WarmedH s.vm
/-- a method's contract: y's name, code and type; its locals; the depth of its calls; what it may make -/
def ab_M (l : Launch) (E : AbE) (y : AbY) (nL d kc ks : Nat) (as : List AbV) (h : AbH) (Q : AbO → AbH → Prop) : Prop :=
  vx_Met l y.1 [Cond.code y.1 y.2.1 nL y.2.2.1] (ab_rm d kc ks) (ab_Pc E as h) (ab_Q E Q) (ab_QX E Q) kc ks (ab_A E)
/-! small facts -/
theorem ab_rg (v : Int32) : -2147483648 ≤ v.toInt ∧ v.toInt < 2147483648 := ⟨by have := Int32.le_toInt v; omega, by have := Int32.toInt_lt v; omega⟩
theorem ab_rg64 (v : Int64) : -9223372036854775808 ≤ v.toInt ∧ v.toInt < 9223372036854775808 := ⟨by have := Int64.le_toInt v; omega, by have := Int64.toInt_lt v; omega⟩
theorem ab_bm {x : Int} (h1 : -2147483648 ≤ x) (h2 : x < 2147483648) : x.bmod (2 ^ 32) = x := by
  rw [Int.bmod_eq_of_le (by omega) (by omega)]
theorem ab_bm64 {x : Int} (h1 : -9223372036854775808 ≤ x) (h2 : x < 9223372036854775808) : x.bmod (2 ^ 64) = x := by
  rw [Int.bmod_eq_of_le (by omega) (by omega)]
theorem ab_nat {v : Int32} (h : 0 ≤ v.toInt) : (v.toNatClampNeg : Int) = v.toInt := by
  show ((v.toInt.toNat : Nat) : Int) = v.toInt
  omega
theorem ab_cat {x : AbV} {w : Value} (h : ab_v x w) : w.category = ab_w x := by
  rcases x with i | i | r
  · obtain ⟨v, rfl, -⟩ := h; rfl
  · obtain ⟨v, rfl, -⟩ := h; rfl
  · cases r <;> (rw [show w = _ from h]; rfl)
theorem ab_word {l : Launch} {E : AbE} {w : Cond} (hG : ab_G l E) (hw : w ∈ lw_tbl) (hg : goodWord w = true) {U : State} (hW : E.1.WarmedH U.vm) (a : Array Value) : w.before a U = true := word_at hW (good_of_word hg) (hG.2.1 w hw)
theorem ab_nw {l : Launch} {E : AbE} {w : Cond} (hG : ab_G l E) (hw : w ∈ lw_tbl) (ht : w.onTables = true) : va_Nw w E.1 := va_Nw.of ht (hG.2.1 w hw)
theorem ab_K {l : Launch} {E : AbE} (hG : ab_G l E) {U : State} (hW : E.1.WarmedH U.vm) : va_K (E.2.2.1, E.2.2.2) ab_cl [] U := va_K.moved hW.alike hG.2.2.1
theorem ab_T.mono {l : Launch} {E : AbE} {y : AbY} {d kc ks pc : Nat} {L : List (Option AbV)} {S : List AbV} {h : AbH} {Q Q' : AbO → AbH → Prop} (k : ab_T l E y d kc ks pc L S h Q) (hq : ∀ o h', Q o h' → Q' o h') : ab_T l E y d kc ks pc L S h Q' := by
  intro p e R s m args below meth c H locs cells slots mc ms ls st X hR hP hl hL hS T hT XX
  obtain ⟨t, a1, o, b1, b2, b3⟩ := k p e R s m args below meth c H locs cells slots mc ms ls st X hR hP hl hL hS T hT XX
  refine ⟨t, a1, o, b1, b2, ?_⟩
  rcases b3 with ⟨⟨v, r, h', c1, c2, c3, c4⟩, c5⟩ | ⟨q, c1, X9, ce, LL, ⟨h', c2, c3⟩, c4⟩
  · exact Or.inl ⟨⟨v, r, h', c1, c2, c3, hq _ _ c4⟩, c5⟩
  · exact Or.inr ⟨q, c1, X9, ce, LL, ⟨h', c2, hq _ _ c3⟩, c4⟩
theorem ab_M.mono {l : Launch} {E : AbE} {y : AbY} {nL d kc ks : Nat} {as : List AbV} {h : AbH} {Q Q' : AbO → AbH → Prop} (k : ab_M l E y nL d kc ks as h Q) (hq : ∀ o h', Q o h' → Q' o h') : ab_M l E y nL d kc ks as h Q' := by
  intro p e ha hc hk s m args below hf happ hP hK
  obtain ⟨n, o, a1, a2, a3, b3⟩ := k p e ha hc hk s m args below hf happ hP hK
  refine ⟨n, o, a1, a2, a3, ?_⟩
  rcases b3 with ⟨⟨v, r, h', c1, c2, c3, c4⟩, c5⟩ | ⟨q, c1, X9, ce, LL, ⟨h', c2, c3⟩, c4⟩
  · exact Or.inl ⟨⟨v, r, h', c1, c2, c3, hq _ _ c4⟩, c5⟩
  · exact Or.inr ⟨q, c1, X9, ce, LL, ⟨h', c2, hq _ _ c3⟩, c4⟩
/-! locals -/
def ab_all (ls : Array Slot) : List (Nat × Value) := (List.range ls.size).filterMap fun k => match (ls[k]? : Option Slot) with
  | some (Slot.val w) => some (k, w)
  | _ => none
theorem ab_all_mem {ls : Array Slot} {k : Nat} {w : Value} : (k, w) ∈ ab_all ls ↔ ls[k]? = some (.val w) := by
  unfold ab_all
  rw [List.mem_filterMap]
  constructor
  · rintro ⟨j, hj, h⟩
    cases hx : ls[j]? with
    | none => rw [hx] at h; cases h
    | some z =>
      rw [hx] at h
      cases z with
      | val v => cases h; exact hx
      | unset => cases h
      | second => cases h
  · intro h
    exact ⟨k, List.mem_range.mpr (Array.getElem?_eq_some_iff.mp h).1, by rw [h]⟩
theorem ab_all_has {ls : Array Slot} (hw : lv_wf ls) : lv_has ls ls.size (ab_all ls) := ⟨rfl, hw, fun q hq => ab_all_mem.mp hq⟩
/-- the slot ahead holds no long -/
def ab_nl (L : List (Option AbV)) (i : Nat) : Bool := match i with
  | 0 => true
  | j + 1 => match L[j]? with
    | some (some (.inr (.inl _))) => false
    | _ => true
theorem ab_st1 {L : List (Option AbV)} {ls ls' : Array Slot} {i : Nat} {x : AbV} {w : Value} (hL : ab_l L ls) (hn : ab_nl L i = true) (hi : i < L.length) (hx : ab_v x w) (h : lv_has ls' ls.size ((i, w) :: (ab_all ls).filter (fun q => !(q.1 == i) && !(q.1 + 1 == i && q.2.category == 2)))) : ab_l (L.set i (some x)) ls' := by
  obtain ⟨h1, h2, h3⟩ := h
  refine ⟨by rw [h1, hL.1, List.length_set], h2, fun k z hk => ?_⟩
  by_cases e : k = i
  · subst e
    rw [List.getElem?_set_self hi] at hk
    cases hk
    exact ⟨w, h3 _ List.mem_cons_self, hx⟩
  · rw [List.getElem?_set_ne (Ne.symm e)] at hk
    obtain ⟨v, hv, hz⟩ := hL.2.2 k z hk
    refine ⟨v, h3 (k, v) (List.mem_cons_of_mem _ (List.mem_filter.mpr ⟨ab_all_mem.mpr hv, ?_⟩)), hz⟩
    simp only [Bool.and_eq_true, Bool.not_eq_true', beq_eq_false_iff_ne, ne_eq, Bool.and_eq_false_iff]
    refine ⟨e, ?_⟩
    by_cases e2 : k + 1 = i
    · refine Or.inr ?_
      subst e2
      rw [ab_cat hz]
      simp only [ab_nl, hk] at hn
      rcases z with z | z | z
      · exact Nat.ne_of_lt (Nat.lt_succ_self 1)
      · cases hn
      · cases z <;> exact Nat.ne_of_lt (Nat.lt_succ_self 1)
    · exact Or.inl e2
theorem ab_st2 {L : List (Option AbV)} {ls ls' : Array Slot} {i : Nat} {x : Int} {w : Value} (hL : ab_l L ls) (hn : ab_nl L i = true) (hi : i + 1 < L.length) (hx : ab_v (vL x) w) (h : lv_has ls' ls.size ((i, w) :: (ab_all ls).filter (fun q => !(q.1 == i) && (!(q.1 == i + 1) && !(q.1 + 1 == i && q.2.category == 2))))) : ab_l ((L.set i (some (vL x))).set (i + 1) none) ls' := by
  obtain ⟨h1, h2, h3⟩ := h
  refine ⟨by rw [h1, hL.1, List.length_set, List.length_set], h2, fun k z hk => ?_⟩
  by_cases e0 : k = i + 1
  · subst e0
    rw [List.getElem?_set_self (by rw [List.length_set]; exact hi)] at hk
    cases hk
  rw [List.getElem?_set_ne (Ne.symm e0)] at hk
  by_cases e : k = i
  · subst e
    rw [List.getElem?_set_self (by omega)] at hk
    cases hk
    exact ⟨w, h3 _ List.mem_cons_self, hx⟩
  · rw [List.getElem?_set_ne (Ne.symm e)] at hk
    obtain ⟨v, hv, hz⟩ := hL.2.2 k z hk
    refine ⟨v, h3 (k, v) (List.mem_cons_of_mem _ (List.mem_filter.mpr ⟨ab_all_mem.mpr hv, ?_⟩)), hz⟩
    simp only [Bool.and_eq_true, Bool.not_eq_true', beq_eq_false_iff_ne, ne_eq, Bool.and_eq_false_iff]
    refine ⟨e, e0, ?_⟩
    by_cases e2 : k + 1 = i
    · refine Or.inr ?_
      subst e2
      rw [ab_cat hz]
      simp only [ab_nl, hk] at hn
      rcases z with z | z | z
      · exact Nat.ne_of_lt (Nat.lt_succ_self 1)
      · cases hn
      · cases z <;> exact Nat.ne_of_lt (Nat.lt_succ_self 1)
    · exact Or.inl e2
end ABA
end
section
/-! one row an instruction, over the abstract walk: constants, locals, arithmetic, branches -/
section ABB
variable {l : Launch} {E : AbE} {y : AbY} {d kc ks pc : Nat} {L : List (Option AbV)} {S : List AbV} {h : AbH} {Q : AbO → AbH → Prop}
theorem ab_iconst {n : Int} (hd : decode y.2.1 pc = .ok (.iconst n, 1)) (hn : (Int32.ofInt n).toInt = n) (k : ab_T l E y d kc ks (pc + 1) L (vI n :: S) h Q) : ab_T l E y d kc ks pc L S h Q := by
  intro p e R s m args below meth c H locs cells slots mc ms ls st X hR hP hl hL hS
  exact lv_iconst X.1 X.2.1 hd rfl (k p e R s m args below meth c H locs cells slots mc ms ls _ X hR hP hl hL ⟨_, _, rfl, ⟨_, rfl, hn⟩, hS⟩)
theorem ab_bipush {n : Int} (hd : decode y.2.1 pc = .ok (.bipush n, 2)) (hn : (Int8.ofInt n).toInt32.toInt = n) (k : ab_T l E y d kc ks (pc + 2) L (vI n :: S) h Q) : ab_T l E y d kc ks pc L S h Q := by
  intro p e R s m args below meth c H locs cells slots mc ms ls st X hR hP hl hL hS
  exact lv_bipush X.1 X.2.1 hd rfl (k p e R s m args below meth c H locs cells slots mc ms ls _ X hR hP hl hL ⟨_, _, rfl, ⟨_, rfl, hn⟩, hS⟩)
theorem ab_sipush {n : Int} (hd : decode y.2.1 pc = .ok (.sipush n, 3)) (hn : (Int16.ofInt n).toInt32.toInt = n) (k : ab_T l E y d kc ks (pc + 3) L (vI n :: S) h Q) : ab_T l E y d kc ks pc L S h Q := by
  intro p e R s m args below meth c H locs cells slots mc ms ls st X hR hP hl hL hS
  exact lv_sipush X.1 X.2.1 hd rfl (k p e R s m args below meth c H locs cells slots mc ms ls _ X hR hP hl hL ⟨_, _, rfl, ⟨_, rfl, hn⟩, hS⟩)
theorem ab_lconst {n : Fin 2} (hd : decode y.2.1 pc = .ok (.lconst n, 1)) (z : Int) (hn : (Int64.ofNat (n : Nat)).toInt = z) (k : ab_T l E y d kc ks (pc + 1) L (vL z :: S) h Q) : ab_T l E y d kc ks pc L S h Q := by
  intro p e R s m args below meth c H locs cells slots mc ms ls st X hR hP hl hL hS
  exact lv_lconst X.1 X.2.1 hd rfl (k p e R s m args below meth c H locs cells slots mc ms ls _ X hR hP hl hL ⟨_, _, rfl, ⟨_, rfl, hn⟩, hS⟩)
theorem ab_null (hd : decode y.2.1 pc = .ok (.aconst_null, 1)) (k : ab_T l E y d kc ks (pc + 1) L (vN :: S) h Q) : ab_T l E y d kc ks pc L S h Q := by
  intro p e R s m args below meth c H locs cells slots mc ms ls st X hR hP hl hL hS
  exact lv_null X.1 X.2.1 hd (k p e R s m args below meth c H locs cells slots mc ms ls _ X hR hP hl hL ⟨_, _, rfl, rfl, hS⟩)
theorem ab_ldc {ix : Nat} {v : Int32} (hd : decode y.2.1 pc = .ok (.ldc ix, 2)) (hw : Cond.constant y.1.cls ix v ∈ lw_tbl) (k : ab_T l E y d kc ks (pc + 2) L (vI v.toInt :: S) h Q) : ab_T l E y d kc ks pc L S h Q := by
  intro p e R s m args below meth c H locs cells slots mc ms ls st X hR hP hl hL hS
  obtain ⟨hx, hb, hml, hown, hr, hlk, hnm, htb, hW, ho, hG⟩ := id X
  exact W.ldc hx hb hown (ab_word hG hw rfl hW args) rfl hd (k p e R s m args below meth c H locs cells slots mc ms ls _ X hR hP hl hL ⟨_, _, rfl, ⟨_, rfl, rfl⟩, hS⟩)
theorem ab_ldc2 {ix : Nat} {v : Int64} (hd : decode y.2.1 pc = .ok (.ldc2_w ix, 3)) (hw : Cond.constantLong y.1.cls ix v ∈ lw_tbl) (k : ab_T l E y d kc ks (pc + 3) L (vL v.toInt :: S) h Q) : ab_T l E y d kc ks pc L S h Q := by
  intro p e R s m args below meth c H locs cells slots mc ms ls st X hR hP hl hL hS
  obtain ⟨hx, hb, hml, hown, hr, hlk, hnm, htb, hW, ho, hG⟩ := id X
  exact W.ldc2 hx hb hown (ab_word hG hw rfl hW args) rfl hd (k p e R s m args below meth c H locs cells slots mc ms ls _ X hR hP hl hL ⟨_, _, rfl, ⟨_, rfl, rfl⟩, hS⟩)
/-! loads -/
theorem ab_iload_n {i : Fin 4} {x : Int} (hd : decode y.2.1 pc = .ok (.iload_n i, 1)) (hl9 : L[(i : Nat)]? = some (some (vI x))) (k : ab_T l E y d kc ks (pc + 1) L (vI x :: S) h Q) : ab_T l E y d kc ks pc L S h Q := by
  intro p e R s m args below meth c H locs cells slots mc ms ls st X hR hP hl hL hS
  obtain ⟨w, hw, v, rfl, hv⟩ := hL.2.2 _ _ hl9
  exact lv_iload_n X.1 X.2.1 hd rfl hw (k p e R s m args below meth c H locs cells slots mc ms ls _ X hR hP hl hL ⟨_, _, rfl, ⟨_, rfl, hv⟩, hS⟩)
theorem ab_iload {i : Nat} {x : Int} (hd : decode y.2.1 pc = .ok (.iload i, 2)) (hl9 : L[i]? = some (some (vI x))) (k : ab_T l E y d kc ks (pc + 2) L (vI x :: S) h Q) : ab_T l E y d kc ks pc L S h Q := by
  intro p e R s m args below meth c H locs cells slots mc ms ls st X hR hP hl hL hS
  obtain ⟨w, hw, v, rfl, hv⟩ := hL.2.2 _ _ hl9
  exact lv_iload X.1 X.2.1 hd hw (k p e R s m args below meth c H locs cells slots mc ms ls _ X hR hP hl hL ⟨_, _, rfl, ⟨_, rfl, hv⟩, hS⟩)
theorem ab_lload_n {i : Fin 4} {x : Int} (hd : decode y.2.1 pc = .ok (.lload_n i, 1)) (hl9 : L[(i : Nat)]? = some (some (vL x))) (k : ab_T l E y d kc ks (pc + 1) L (vL x :: S) h Q) : ab_T l E y d kc ks pc L S h Q := by
  intro p e R s m args below meth c H locs cells slots mc ms ls st X hR hP hl hL hS
  obtain ⟨w, hw, v, rfl, hv⟩ := hL.2.2 _ _ hl9
  exact lv_lload_n X.1 X.2.1 hd rfl hw (k p e R s m args below meth c H locs cells slots mc ms ls _ X hR hP hl hL ⟨_, _, rfl, ⟨_, rfl, hv⟩, hS⟩)
theorem ab_lload {i : Nat} {x : Int} (hd : decode y.2.1 pc = .ok (.lload i, 2)) (hl9 : L[i]? = some (some (vL x))) (k : ab_T l E y d kc ks (pc + 2) L (vL x :: S) h Q) : ab_T l E y d kc ks pc L S h Q := by
  intro p e R s m args below meth c H locs cells slots mc ms ls st X hR hP hl hL hS
  obtain ⟨w, hw, v, rfl, hv⟩ := hL.2.2 _ _ hl9
  exact lv_lload X.1 X.2.1 hd hw (k p e R s m args below meth c H locs cells slots mc ms ls _ X hR hP hl hL ⟨_, _, rfl, ⟨_, rfl, hv⟩, hS⟩)
theorem ab_aload_n {i : Fin 4} {x : Nat} (hd : decode y.2.1 pc = .ok (.aload_n i, 1)) (hl9 : L[(i : Nat)]? = some (some (vR x))) (k : ab_T l E y d kc ks (pc + 1) L (vR x :: S) h Q) : ab_T l E y d kc ks pc L S h Q := by
  intro p e R s m args below meth c H locs cells slots mc ms ls st X hR hP hl hL hS
  obtain ⟨w, hw, hv⟩ := hL.2.2 _ _ hl9
  cases (show w = .ref x from hv)
  exact lv_aload_n X.1 X.2.1 hd rfl hw (k p e R s m args below meth c H locs cells slots mc ms ls _ X hR hP hl hL ⟨_, _, rfl, rfl, hS⟩)
theorem ab_aload {i : Nat} {x : Nat} (hd : decode y.2.1 pc = .ok (.aload i, 2)) (hl9 : L[i]? = some (some (vR x))) (k : ab_T l E y d kc ks (pc + 2) L (vR x :: S) h Q) : ab_T l E y d kc ks pc L S h Q := by
  intro p e R s m args below meth c H locs cells slots mc ms ls st X hR hP hl hL hS
  obtain ⟨w, hw, hv⟩ := hL.2.2 _ _ hl9
  cases (show w = .ref x from hv)
  exact lv_aload X.1 X.2.1 hd hw (k p e R s m args below meth c H locs cells slots mc ms ls _ X hR hP hl hL ⟨_, _, rfl, rfl, hS⟩)
/-! stores -/
theorem ab_istore_n {i : Fin 4} {x : Int} (hd : decode y.2.1 pc = .ok (.istore_n i, 1)) (hn : ab_nl L i = true) (hi : (i : Nat) < L.length) (k : ab_T l E y d kc ks (pc + 1) (L.set i (some (vI x))) S h Q) : ab_T l E y d kc ks pc L (vI x :: S) h Q := by
  intro p e R s m args below meth c H locs cells slots mc ms ls st X hR hP hl hL hS
  obtain ⟨w, r, rfl, ⟨v, rfl, hv⟩, hS⟩ := hS
  refine lv_istore_n X.1 X.2.1 hd rfl (ab_all_has hL.2.1) (by rw [hL.1]; exact hi) rfl fun ls' h' => ?_
  exact k p e R s m args below meth c H locs cells slots mc ms ls' r (by rw [List.length_set]; exact X) hR hP hl (ab_st1 hL hn hi ⟨v, rfl, hv⟩ h') hS
theorem ab_istore {i : Nat} {x : Int} (hd : decode y.2.1 pc = .ok (.istore i, 2)) (hn : ab_nl L i = true) (hi : i < L.length) (k : ab_T l E y d kc ks (pc + 2) (L.set i (some (vI x))) S h Q) : ab_T l E y d kc ks pc L (vI x :: S) h Q := by
  intro p e R s m args below meth c H locs cells slots mc ms ls st X hR hP hl hL hS
  obtain ⟨w, r, rfl, ⟨v, rfl, hv⟩, hS⟩ := hS
  refine lv_istore X.1 X.2.1 hd (ab_all_has hL.2.1) (by rw [hL.1]; exact hi) rfl fun ls' h' => ?_
  exact k p e R s m args below meth c H locs cells slots mc ms ls' r (by rw [List.length_set]; exact X) hR hP hl (ab_st1 hL hn hi ⟨v, rfl, hv⟩ h') hS
theorem ab_lstore_n {i : Fin 4} {x : Int} (hd : decode y.2.1 pc = .ok (.lstore_n i, 1)) (hn : ab_nl L i = true) (hi : (i : Nat) + 1 < L.length) (k : ab_T l E y d kc ks (pc + 1) ((L.set i (some (vL x))).set (i + 1) none) S h Q) : ab_T l E y d kc ks pc L (vL x :: S) h Q := by
  intro p e R s m args below meth c H locs cells slots mc ms ls st X hR hP hl hL hS
  obtain ⟨w, r, rfl, ⟨v, rfl, hv⟩, hS⟩ := hS
  refine lv_lstore_n X.1 X.2.1 hd rfl (ab_all_has hL.2.1) (by rw [hL.1]; exact hi) rfl fun ls' h' => ?_
  exact k p e R s m args below meth c H locs cells slots mc ms ls' r (by rw [List.length_set, List.length_set]; exact X) hR hP hl (ab_st2 hL hn hi ⟨v, rfl, hv⟩ h') hS
theorem ab_lstore {i : Nat} {x : Int} (hd : decode y.2.1 pc = .ok (.lstore i, 2)) (hn : ab_nl L i = true) (hi : i + 1 < L.length) (k : ab_T l E y d kc ks (pc + 2) ((L.set i (some (vL x))).set (i + 1) none) S h Q) : ab_T l E y d kc ks pc L (vL x :: S) h Q := by
  intro p e R s m args below meth c H locs cells slots mc ms ls st X hR hP hl hL hS
  obtain ⟨w, r, rfl, ⟨v, rfl, hv⟩, hS⟩ := hS
  refine lv_lstore X.1 X.2.1 hd (ab_all_has hL.2.1) (by rw [hL.1]; exact hi) rfl fun ls' h' => ?_
  exact k p e R s m args below meth c H locs cells slots mc ms ls' r (by rw [List.length_set, List.length_set]; exact X) hR hP hl (ab_st2 hL hn hi ⟨v, rfl, hv⟩ h') hS
theorem ab_astore_n {i : Fin 4} {x : Nat} (hd : decode y.2.1 pc = .ok (.astore_n i, 1)) (hn : ab_nl L i = true) (hi : (i : Nat) < L.length) (k : ab_T l E y d kc ks (pc + 1) (L.set i (some (vR x))) S h Q) : ab_T l E y d kc ks pc L (vR x :: S) h Q := by
  intro p e R s m args below meth c H locs cells slots mc ms ls st X hR hP hl hL hS
  obtain ⟨w, r, rfl, hv, hS⟩ := hS
  cases (show w = .ref x from hv)
  refine lv_astore_n X.1 X.2.1 hd rfl (ab_all_has hL.2.1) (by rw [hL.1]; exact hi) rfl fun ls' h' => ?_
  exact k p e R s m args below meth c H locs cells slots mc ms ls' r (by rw [List.length_set]; exact X) hR hP hl (ab_st1 hL hn hi rfl h') hS
theorem ab_astore {i : Nat} {x : Nat} (hd : decode y.2.1 pc = .ok (.astore i, 2)) (hn : ab_nl L i = true) (hi : i < L.length) (k : ab_T l E y d kc ks (pc + 2) (L.set i (some (vR x))) S h Q) : ab_T l E y d kc ks pc L (vR x :: S) h Q := by
  intro p e R s m args below meth c H locs cells slots mc ms ls st X hR hP hl hL hS
  obtain ⟨w, r, rfl, hv, hS⟩ := hS
  cases (show w = .ref x from hv)
  refine lv_astore X.1 X.2.1 hd (ab_all_has hL.2.1) (by rw [hL.1]; exact hi) rfl fun ls' h' => ?_
  exact k p e R s m args below meth c H locs cells slots mc ms ls' r (by rw [List.length_set]; exact X) hR hP hl (ab_st1 hL hn hi rfl h') hS
theorem ab_add32 {x y : Int32} {a b : Int} (hx : x.toInt = a) (hy : y.toInt = b) (h1 : -2147483648 ≤ a + b) (h2 : a + b < 2147483648) : (x + y).toInt = a + b := by
  rw [Int32.toInt_add, hx, hy, ab_bm h1 h2]
theorem ab_iinc {i : Nat} {n x : Int} (hd : decode y.2.1 pc = .ok (.iinc i n, 3)) (hl9 : L[i]? = some (some (vI x))) (hn : ab_nl L i = true) (hk : (Int32.ofInt n).toInt = n) (h1 : -2147483648 ≤ x + n) (h2 : x + n < 2147483648) (k : ab_T l E y d kc ks (pc + 3) (L.set i (some (vI (x + n)))) S h Q) : ab_T l E y d kc ks pc L S h Q := by
  intro p e R s m args below meth c H locs cells slots mc ms ls st X hR hP hl hL hS
  obtain ⟨w, hw, v, rfl, hv⟩ := hL.2.2 _ _ hl9
  have hi : i < L.length := (List.getElem?_eq_some_iff.mp hl9).1
  obtain ⟨q, hq⟩ := List.getElem?_of_mem (ab_all_mem.mpr hw)
  refine lv_iinc (k := q) X.1 X.2.1 hd (ab_all_has hL.2.1) hq rfl (by rw [hL.1]; exact hi) rfl fun ls' h' => ?_
  exact k p e R s m args below meth c H locs cells slots mc ms ls' st (by rw [List.length_set]; exact X) hR hP hl (ab_st1 hL hn hi ⟨_, rfl, ab_add32 hv hk h1 h2⟩ h') hS
/-! arithmetic -/
theorem ab_iadd {a b : Int} (hd : decode y.2.1 pc = .ok (.iadd, 1)) (h1 : -2147483648 ≤ a + b) (h2 : a + b < 2147483648) (k : ab_T l E y d kc ks (pc + 1) L (vI (a + b) :: S) h Q) : ab_T l E y d kc ks pc L (vI b :: vI a :: S) h Q := by
  intro p e R s m args below meth c H locs cells slots mc ms ls st X hR hP hl hL hS
  obtain ⟨_, _, rfl, ⟨v, rfl, hv⟩, _, _, rfl, ⟨u, rfl, hu⟩, hS⟩ := hS
  exact lv_iadd X.1 X.2.1 hd (k p e R s m args below meth c H locs cells slots mc ms ls _ X hR hP hl hL ⟨_, _, rfl, ⟨_, rfl, ab_add32 hu hv h1 h2⟩, hS⟩)
theorem ab_isub {a b : Int} (hd : decode y.2.1 pc = .ok (.isub, 1)) (h1 : -2147483648 ≤ a - b) (h2 : a - b < 2147483648) (k : ab_T l E y d kc ks (pc + 1) L (vI (a - b) :: S) h Q) : ab_T l E y d kc ks pc L (vI b :: vI a :: S) h Q := by
  intro p e R s m args below meth c H locs cells slots mc ms ls st X hR hP hl hL hS
  obtain ⟨_, _, rfl, ⟨v, rfl, hv⟩, _, _, rfl, ⟨u, rfl, hu⟩, hS⟩ := hS
  exact lv_isub X.1 X.2.1 hd (k p e R s m args below meth c H locs cells slots mc ms ls _ X hR hP hl hL ⟨_, _, rfl, ⟨_, rfl, by rw [Int32.toInt_sub, hu, hv, ab_bm h1 h2]⟩, hS⟩)
theorem ab_imul {a b : Int} (hd : decode y.2.1 pc = .ok (.imul, 1)) (h1 : -2147483648 ≤ a * b) (h2 : a * b < 2147483648) (k : ab_T l E y d kc ks (pc + 1) L (vI (a * b) :: S) h Q) : ab_T l E y d kc ks pc L (vI b :: vI a :: S) h Q := by
  intro p e R s m args below meth c H locs cells slots mc ms ls st X hR hP hl hL hS
  obtain ⟨_, _, rfl, ⟨v, rfl, hv⟩, _, _, rfl, ⟨u, rfl, hu⟩, hS⟩ := hS
  exact lv_imul X.1 X.2.1 hd (k p e R s m args below meth c H locs cells slots mc ms ls _ X hR hP hl hL ⟨_, _, rfl, ⟨_, rfl, by rw [Int32.toInt_mul, hu, hv, ab_bm h1 h2]⟩, hS⟩)
theorem ab_ne0 {v : Int32} {b : Int} (hv : v.toInt = b) (hb : 0 < b) : ¬ v = 0 := by
  intro e
  rw [e, Int32.toInt_zero] at hv
  omega
theorem ab_idiv {a b : Int} (hd : decode y.2.1 pc = .ok (.idiv, 1)) (hb : 0 < b) (k : ab_T l E y d kc ks (pc + 1) L (vI (a.tdiv b) :: S) h Q) : ab_T l E y d kc ks pc L (vI b :: vI a :: S) h Q := by
  intro p e R s m args below meth c H locs cells slots mc ms ls st X hR hP hl hL hS
  obtain ⟨_, _, rfl, ⟨v, rfl, hv⟩, _, _, rfl, ⟨u, rfl, hu⟩, hS⟩ := hS
  have hq : (u / v).toInt = a.tdiv b := by
    have g1 := ab_rg u
    have g3 : (a.tdiv b).natAbs ≤ a.natAbs := by
      rw [Int.natAbs_tdiv]
      exact Nat.div_le_self _ _
    rw [Int32.toInt_div, hu, hv, ab_bm]
    · rw [hu] at g1; omega
    · rcases Int.lt_or_le a 0 with g | g
      · have : a.tdiv b ≤ 0 := by
          have g5 : (-a).tdiv b = -(a.tdiv b) := Int.neg_tdiv a b
          have g6 : 0 ≤ (-a).tdiv b := Int.tdiv_nonneg (by omega) (by omega)
          omega
        omega
      · rw [hu] at g1; omega
  exact lv_idiv X.1 X.2.1 hd (ab_ne0 hv hb) (k p e R s m args below meth c H locs cells slots mc ms ls _ X hR hP hl hL ⟨_, _, rfl, ⟨_, rfl, hq⟩, hS⟩)
theorem ab_irem {a b : Int} (hd : decode y.2.1 pc = .ok (.irem, 1)) (hb : 0 < b) (k : ab_T l E y d kc ks (pc + 1) L (vI (a.tmod b) :: S) h Q) : ab_T l E y d kc ks pc L (vI b :: vI a :: S) h Q := by
  intro p e R s m args below meth c H locs cells slots mc ms ls st X hR hP hl hL hS
  obtain ⟨_, _, rfl, ⟨v, rfl, hv⟩, _, _, rfl, ⟨u, rfl, hu⟩, hS⟩ := hS
  exact lv_irem X.1 X.2.1 hd (ab_ne0 hv hb) (k p e R s m args below meth c H locs cells slots mc ms ls _ X hR hP hl hL ⟨_, _, rfl, ⟨_, rfl, by rw [rem_toInt, hu, hv]⟩, hS⟩)
/-- bits by the machine's own words -/
def ab_and (a b : Int) : Int := (Int32.ofInt a &&& Int32.ofInt b).toInt
def ab_or (a b : Int) : Int := (Int32.ofInt a ||| Int32.ofInt b).toInt
def ab_xor (a b : Int) : Int := (Int32.ofInt a ^^^ Int32.ofInt b).toInt
def ab_shl (a b : Int) : Int := (Int32.ofInt a <<< (Int32.ofInt b &&& 31)).toInt
def ab_shr (a b : Int) : Int := (Int32.ofInt a >>> (Int32.ofInt b &&& 31)).toInt
def ab_ushr (a b : Int) : Int := ((Int32.ofInt a).toUInt32 >>> ((Int32.ofInt b).toUInt32 &&& Int32.toUInt32 31)).toInt32.toInt
def ab_b8 (a : Int) : Int := (Int32.ofInt a).toInt8.toInt32.toInt
def ab_b16 (a : Int) : Int := (Int32.ofInt a).toInt16.toInt32.toInt
theorem ab_of {v : Int32} {a : Int} (h : v.toInt = a) : v = Int32.ofInt a := by rw [← h, Int32.ofInt_toInt]
theorem ab_iand {a b : Int} (hd : decode y.2.1 pc = .ok (.iand, 1)) (k : ab_T l E y d kc ks (pc + 1) L (vI (ab_and a b) :: S) h Q) : ab_T l E y d kc ks pc L (vI b :: vI a :: S) h Q := by
  intro p e R s m args below meth c H locs cells slots mc ms ls st X hR hP hl hL hS
  obtain ⟨_, _, rfl, ⟨v, rfl, hv⟩, _, _, rfl, ⟨u, rfl, hu⟩, hS⟩ := hS
  exact lv_iand X.1 X.2.1 hd (k p e R s m args below meth c H locs cells slots mc ms ls _ X hR hP hl hL ⟨_, _, rfl, ⟨_, rfl, by rw [ab_of hu, ab_of hv]; rfl⟩, hS⟩)
theorem ab_ior {a b : Int} (hd : decode y.2.1 pc = .ok (.ior, 1)) (k : ab_T l E y d kc ks (pc + 1) L (vI (ab_or a b) :: S) h Q) : ab_T l E y d kc ks pc L (vI b :: vI a :: S) h Q := by
  intro p e R s m args below meth c H locs cells slots mc ms ls st X hR hP hl hL hS
  obtain ⟨_, _, rfl, ⟨v, rfl, hv⟩, _, _, rfl, ⟨u, rfl, hu⟩, hS⟩ := hS
  exact lv_ior X.1 X.2.1 hd (k p e R s m args below meth c H locs cells slots mc ms ls _ X hR hP hl hL ⟨_, _, rfl, ⟨_, rfl, by rw [ab_of hu, ab_of hv]; rfl⟩, hS⟩)
theorem ab_ixor {a b : Int} (hd : decode y.2.1 pc = .ok (.ixor, 1)) (k : ab_T l E y d kc ks (pc + 1) L (vI (ab_xor a b) :: S) h Q) : ab_T l E y d kc ks pc L (vI b :: vI a :: S) h Q := by
  intro p e R s m args below meth c H locs cells slots mc ms ls st X hR hP hl hL hS
  obtain ⟨_, _, rfl, ⟨v, rfl, hv⟩, _, _, rfl, ⟨u, rfl, hu⟩, hS⟩ := hS
  exact lv_ixor X.1 X.2.1 hd (k p e R s m args below meth c H locs cells slots mc ms ls _ X hR hP hl hL ⟨_, _, rfl, ⟨_, rfl, by rw [ab_of hu, ab_of hv]; rfl⟩, hS⟩)
theorem ab_ishl {a b : Int} (hd : decode y.2.1 pc = .ok (.ishl, 1)) (k : ab_T l E y d kc ks (pc + 1) L (vI (ab_shl a b) :: S) h Q) : ab_T l E y d kc ks pc L (vI b :: vI a :: S) h Q := by
  intro p e R s m args below meth c H locs cells slots mc ms ls st X hR hP hl hL hS
  obtain ⟨_, _, rfl, ⟨v, rfl, hv⟩, _, _, rfl, ⟨u, rfl, hu⟩, hS⟩ := hS
  exact lv_ishl X.1 X.2.1 hd (k p e R s m args below meth c H locs cells slots mc ms ls _ X hR hP hl hL ⟨_, _, rfl, ⟨_, rfl, by rw [ab_of hu, ab_of hv]; rfl⟩, hS⟩)
theorem ab_ishr {a b : Int} (hd : decode y.2.1 pc = .ok (.ishr, 1)) (k : ab_T l E y d kc ks (pc + 1) L (vI (ab_shr a b) :: S) h Q) : ab_T l E y d kc ks pc L (vI b :: vI a :: S) h Q := by
  intro p e R s m args below meth c H locs cells slots mc ms ls st X hR hP hl hL hS
  obtain ⟨_, _, rfl, ⟨v, rfl, hv⟩, _, _, rfl, ⟨u, rfl, hu⟩, hS⟩ := hS
  exact lv_ishr X.1 X.2.1 hd (k p e R s m args below meth c H locs cells slots mc ms ls _ X hR hP hl hL ⟨_, _, rfl, ⟨_, rfl, by rw [ab_of hu, ab_of hv]; rfl⟩, hS⟩)
theorem ab_iushr {a b : Int} (hd : decode y.2.1 pc = .ok (.iushr, 1)) (k : ab_T l E y d kc ks (pc + 1) L (vI (ab_ushr a b) :: S) h Q) : ab_T l E y d kc ks pc L (vI b :: vI a :: S) h Q := by
  intro p e R s m args below meth c H locs cells slots mc ms ls st X hR hP hl hL hS
  obtain ⟨_, _, rfl, ⟨v, rfl, hv⟩, _, _, rfl, ⟨u, rfl, hu⟩, hS⟩ := hS
  exact lv_iushr X.1 X.2.1 hd rfl (k p e R s m args below meth c H locs cells slots mc ms ls _ X hR hP hl hL ⟨_, _, rfl, ⟨_, rfl, by rw [ab_of hu, ab_of hv]; rfl⟩, hS⟩)
theorem ab_i2b {a : Int} (hd : decode y.2.1 pc = .ok (.i2b, 1)) (k : ab_T l E y d kc ks (pc + 1) L (vI (ab_b8 a) :: S) h Q) : ab_T l E y d kc ks pc L (vI a :: S) h Q := by
  intro p e R s m args below meth c H locs cells slots mc ms ls st X hR hP hl hL hS
  obtain ⟨_, _, rfl, ⟨v, rfl, hv⟩, hS⟩ := hS
  exact lv_i2b X.1 X.2.1 hd rfl (k p e R s m args below meth c H locs cells slots mc ms ls _ X hR hP hl hL ⟨_, _, rfl, ⟨_, rfl, by rw [ab_of hv]; rfl⟩, hS⟩)
theorem ab_i2s {a : Int} (hd : decode y.2.1 pc = .ok (.i2s, 1)) (k : ab_T l E y d kc ks (pc + 1) L (vI (ab_b16 a) :: S) h Q) : ab_T l E y d kc ks pc L (vI a :: S) h Q := by
  intro p e R s m args below meth c H locs cells slots mc ms ls st X hR hP hl hL hS
  obtain ⟨_, _, rfl, ⟨v, rfl, hv⟩, hS⟩ := hS
  exact lv_i2s X.1 X.2.1 hd rfl (k p e R s m args below meth c H locs cells slots mc ms ls _ X hR hP hl hL ⟨_, _, rfl, ⟨_, rfl, by rw [ab_of hv]; rfl⟩, hS⟩)
theorem ab_i2l {a : Int} (hd : decode y.2.1 pc = .ok (.i2l, 1)) (k : ab_T l E y d kc ks (pc + 1) L (vL a :: S) h Q) : ab_T l E y d kc ks pc L (vI a :: S) h Q := by
  intro p e R s m args below meth c H locs cells slots mc ms ls st X hR hP hl hL hS
  obtain ⟨_, _, rfl, ⟨v, rfl, hv⟩, hS⟩ := hS
  exact lv_i2l X.1 X.2.1 hd rfl (k p e R s m args below meth c H locs cells slots mc ms ls _ X hR hP hl hL ⟨_, _, rfl, ⟨_, rfl, by rw [Int32.toInt_toInt64, hv]⟩, hS⟩)
/-- longs go round at 2^64 -/
def ab_w64 (x : Int) : Int := x.bmod (2 ^ 64)
theorem ab_w64_eq {x : Int} (h1 : -9223372036854775808 ≤ x) (h2 : x < 9223372036854775808) : ab_w64 x = x := ab_bm64 h1 h2
theorem ab_ladd {a b : Int} (hd : decode y.2.1 pc = .ok (.ladd, 1)) (k : ab_T l E y d kc ks (pc + 1) L (vL (ab_w64 (a + b)) :: S) h Q) : ab_T l E y d kc ks pc L (vL b :: vL a :: S) h Q := by
  intro p e R s m args below meth c H locs cells slots mc ms ls st X hR hP hl hL hS
  obtain ⟨_, _, rfl, ⟨v, rfl, hv⟩, _, _, rfl, ⟨u, rfl, hu⟩, hS⟩ := hS
  exact lv_ladd X.1 X.2.1 hd (k p e R s m args below meth c H locs cells slots mc ms ls _ X hR hP hl hL ⟨_, _, rfl, ⟨_, rfl, by rw [Int64.toInt_add, hu, hv]; rfl⟩, hS⟩)
theorem ab_lsub {a b : Int} (hd : decode y.2.1 pc = .ok (.lsub, 1)) (k : ab_T l E y d kc ks (pc + 1) L (vL (ab_w64 (a - b)) :: S) h Q) : ab_T l E y d kc ks pc L (vL b :: vL a :: S) h Q := by
  intro p e R s m args below meth c H locs cells slots mc ms ls st X hR hP hl hL hS
  obtain ⟨_, _, rfl, ⟨v, rfl, hv⟩, _, _, rfl, ⟨u, rfl, hu⟩, hS⟩ := hS
  exact lv_lsub X.1 X.2.1 hd (k p e R s m args below meth c H locs cells slots mc ms ls _ X hR hP hl hL ⟨_, _, rfl, ⟨_, rfl, by rw [Int64.toInt_sub, hu, hv]; rfl⟩, hS⟩)
theorem ab_lmul {a b : Int} (hd : decode y.2.1 pc = .ok (.lmul, 1)) (k : ab_T l E y d kc ks (pc + 1) L (vL (ab_w64 (a * b)) :: S) h Q) : ab_T l E y d kc ks pc L (vL b :: vL a :: S) h Q := by
  intro p e R s m args below meth c H locs cells slots mc ms ls st X hR hP hl hL hS
  obtain ⟨_, _, rfl, ⟨v, rfl, hv⟩, _, _, rfl, ⟨u, rfl, hu⟩, hS⟩ := hS
  exact lv_lmul X.1 X.2.1 hd (k p e R s m args below meth c H locs cells slots mc ms ls _ X hR hP hl hL ⟨_, _, rfl, ⟨_, rfl, by rw [Int64.toInt_mul, hu, hv]; rfl⟩, hS⟩)
theorem ab_of64 {v : Int64} {a : Int} (h : v.toInt = a) : v = Int64.ofInt a := by rw [← h, Int64.ofInt_toInt]
def ab_lsh (a b : Int) : Int := (Int64.ofInt a <<< ((Int32.ofInt b).toInt64 &&& 63)).toInt
theorem ab_lshl {a b : Int} (hd : decode y.2.1 pc = .ok (.lshl, 1)) (k : ab_T l E y d kc ks (pc + 1) L (vL (ab_lsh a b) :: S) h Q) : ab_T l E y d kc ks pc L (vI b :: vL a :: S) h Q := by
  intro p e R s m args below meth c H locs cells slots mc ms ls st X hR hP hl hL hS
  obtain ⟨_, _, rfl, ⟨v, rfl, hv⟩, _, _, rfl, ⟨u, rfl, hu⟩, hS⟩ := hS
  exact lv_lshl X.1 X.2.1 hd rfl (k p e R s m args below meth c H locs cells slots mc ms ls _ X hR hP hl hL ⟨_, _, rfl, ⟨_, rfl, by rw [ab_of64 hu, ab_of hv]; rfl⟩, hS⟩)
def ab_lcmp (a b : Int) : Int := if b < a then 1 else if a = b then 0 else -1
theorem ab_lcm {a b : Int} (hd : decode y.2.1 pc = .ok (.lcmp, 1)) (k : ab_T l E y d kc ks (pc + 1) L (vI (ab_lcmp a b) :: S) h Q) : ab_T l E y d kc ks pc L (vL b :: vL a :: S) h Q := by
  intro p e R s m args below meth c H locs cells slots mc ms ls st X hR hP hl hL hS
  obtain ⟨_, _, rfl, ⟨v, rfl, hv⟩, _, _, rfl, ⟨u, rfl, hu⟩, hS⟩ := hS
  have hq : (lg_cmp u v).toInt = ab_lcmp a b := by
    unfold lg_cmp ab_lcmp
    rcases lg_tri u v with g | g | g
    · have g1 : a < b := by rw [← hu, ← hv]; exact Int64.lt_iff_toInt_lt.mp g
      rw [if_neg (lg_lt_not g), if_neg (lg_lt_ne g), if_neg (by omega), if_neg (by omega)]
      rfl
    · subst g
      have g1 : a = b := hu.symm.trans hv
      rw [if_neg (by rw [GT.gt, Int64.lt_iff_toInt_lt]; omega), if_pos rfl, if_neg (by omega), if_pos g1]
      rfl
    · have g1 : b < a := by rw [← hu, ← hv]; exact Int64.lt_iff_toInt_lt.mp g
      rw [if_pos g, if_pos g1]
      rfl
  exact W.lcmp X.1 X.2.1 hd (k p e R s m args below meth c H locs cells slots mc ms ls _ X hR hP hl hL ⟨_, _, rfl, ⟨_, rfl, hq⟩, hS⟩)
/-! the stack -/
theorem ab_dup {x : AbV} (hd : decode y.2.1 pc = .ok (.dup, 1)) (hx : ab_w x = 1) (k : ab_T l E y d kc ks (pc + 1) L (x :: x :: S) h Q) : ab_T l E y d kc ks pc L (x :: S) h Q := by
  intro p e R s m args below meth c H locs cells slots mc ms ls st X hR hP hl hL hS
  obtain ⟨w, r, rfl, hw, hS⟩ := hS
  exact lv_dup X.1 X.2.1 hd ((ab_cat hw).trans hx) (k p e R s m args below meth c H locs cells slots mc ms ls _ X hR hP hl hL ⟨_, _, rfl, hw, _, _, rfl, hw, hS⟩)
theorem ab_dup2 {x z : AbV} (hd : decode y.2.1 pc = .ok (.dup2, 1)) (hx : ab_w x = 1) (hz : ab_w z = 1) (k : ab_T l E y d kc ks (pc + 1) L (x :: z :: x :: z :: S) h Q) : ab_T l E y d kc ks pc L (x :: z :: S) h Q := by
  intro p e R s m args below meth c H locs cells slots mc ms ls st X hR hP hl hL hS
  obtain ⟨w, r, rfl, hw, w2, r2, rfl, hw2, hS⟩ := hS
  exact lv_dup2_11 X.1 X.2.1 hd ((ab_cat hw).trans hx) ((ab_cat hw2).trans hz) (k p e R s m args below meth c H locs cells slots mc ms ls _ X hR hP hl hL ⟨_, _, rfl, hw, _, _, rfl, hw2, _, _, rfl, hw, _, _, rfl, hw2, hS⟩)
theorem ab_pop {x : AbV} (hd : decode y.2.1 pc = .ok (.pop, 1)) (hx : ab_w x = 1) (k : ab_T l E y d kc ks (pc + 1) L S h Q) : ab_T l E y d kc ks pc L (x :: S) h Q := by
  intro p e R s m args below meth c H locs cells slots mc ms ls st X hR hP hl hL hS
  obtain ⟨w, r, rfl, hw, hS⟩ := hS
  exact lv_pop X.1 X.2.1 hd ((ab_cat hw).trans hx) (k p e R s m args below meth c H locs cells slots mc ms ls _ X hR hP hl hL hS)
/-! branches -/
theorem ab_goto {off : Int} (tgt : Nat) (hd : decode y.2.1 pc = .ok (.goto off, 3)) (ht : (pc : Int) + off = (tgt : Int)) (k : ab_T l E y d kc ks tgt L S h Q) : ab_T l E y d kc ks pc L S h Q := by
  intro p e R s m args below meth c H locs cells slots mc ms ls st X hR hP hl hL hS
  exact lv_goto X.1 X.2.1 hd ht (k p e R s m args below meth c H locs cells slots mc ms ls _ X hR hP hl hL hS)
theorem ab_icmp_lt {a b off : Int} (tgt : Nat) (hd : decode y.2.1 pc = .ok (.if_icmp .lt off, 3)) (ht : (pc : Int) + off = (tgt : Int)) (kt : a < b → ab_T l E y d kc ks tgt L S h Q) (kf : ¬ a < b → ab_T l E y d kc ks (pc + 3) L S h Q) : ab_T l E y d kc ks pc L (vI b :: vI a :: S) h Q := by
  intro p e R s m args below meth c H locs cells slots mc ms ls st X hR hP hl hL hS
  obtain ⟨_, _, rfl, ⟨v, rfl, hv⟩, _, _, rfl, ⟨u, rfl, hu⟩, hS⟩ := hS
  exact lv_icmp_lt X.1 X.2.1 hd ht (fun g => kt (by have g2 := Int32.lt_iff_toInt_lt.mp g; simp only [hu, hv] at g2; exact g2) p e R s m args below meth c H locs cells slots mc ms ls _ X hR hP hl hL hS) (fun g => kf (fun g2 => g (Int32.lt_iff_toInt_lt.mpr (by simp only [hu, hv]; exact g2))) p e R s m args below meth c H locs cells slots mc ms ls _ X hR hP hl hL hS)
theorem ab_if_lt {a off : Int} (tgt : Nat) (hd : decode y.2.1 pc = .ok (.ifCond .lt off, 3)) (ht : (pc : Int) + off = (tgt : Int)) (kt : a < 0 → ab_T l E y d kc ks tgt L S h Q) (kf : ¬ a < 0 → ab_T l E y d kc ks (pc + 3) L S h Q) : ab_T l E y d kc ks pc L (vI a :: S) h Q := by
  intro p e R s m args below meth c H locs cells slots mc ms ls st X hR hP hl hL hS
  obtain ⟨_, _, rfl, ⟨u, rfl, hu⟩, hS⟩ := hS
  exact lv_if_lt X.1 X.2.1 hd ht (fun g => kt (by have g2 := Int32.lt_iff_toInt_lt.mp g; simp only [hu, Int32.toInt_zero] at g2; exact g2) p e R s m args below meth c H locs cells slots mc ms ls _ X hR hP hl hL hS) (fun g => kf (fun g2 => g (Int32.lt_iff_toInt_lt.mpr (by simp only [hu, Int32.toInt_zero]; exact g2))) p e R s m args below meth c H locs cells slots mc ms ls _ X hR hP hl hL hS)
theorem ab_icmp_ge {a b off : Int} (tgt : Nat) (hd : decode y.2.1 pc = .ok (.if_icmp .ge off, 3)) (ht : (pc : Int) + off = (tgt : Int)) (kt : b ≤ a → ab_T l E y d kc ks tgt L S h Q) (kf : ¬ b ≤ a → ab_T l E y d kc ks (pc + 3) L S h Q) : ab_T l E y d kc ks pc L (vI b :: vI a :: S) h Q := by
  intro p e R s m args below meth c H locs cells slots mc ms ls st X hR hP hl hL hS
  obtain ⟨_, _, rfl, ⟨v, rfl, hv⟩, _, _, rfl, ⟨u, rfl, hu⟩, hS⟩ := hS
  exact lv_icmp_ge X.1 X.2.1 hd ht (fun g => kt (by have g2 := Int32.le_iff_toInt_le.mp g; simp only [hu, hv] at g2; exact g2) p e R s m args below meth c H locs cells slots mc ms ls _ X hR hP hl hL hS) (fun g => kf (fun g2 => g (Int32.le_iff_toInt_le.mpr (by simp only [hu, hv]; exact g2))) p e R s m args below meth c H locs cells slots mc ms ls _ X hR hP hl hL hS)
theorem ab_if_ge {a off : Int} (tgt : Nat) (hd : decode y.2.1 pc = .ok (.ifCond .ge off, 3)) (ht : (pc : Int) + off = (tgt : Int)) (kt : 0 ≤ a → ab_T l E y d kc ks tgt L S h Q) (kf : ¬ 0 ≤ a → ab_T l E y d kc ks (pc + 3) L S h Q) : ab_T l E y d kc ks pc L (vI a :: S) h Q := by
  intro p e R s m args below meth c H locs cells slots mc ms ls st X hR hP hl hL hS
  obtain ⟨_, _, rfl, ⟨u, rfl, hu⟩, hS⟩ := hS
  exact lv_if_ge X.1 X.2.1 hd ht (fun g => kt (by have g2 := Int32.le_iff_toInt_le.mp g; simp only [hu, Int32.toInt_zero] at g2; exact g2) p e R s m args below meth c H locs cells slots mc ms ls _ X hR hP hl hL hS) (fun g => kf (fun g2 => g (Int32.le_iff_toInt_le.mpr (by simp only [hu, Int32.toInt_zero]; exact g2))) p e R s m args below meth c H locs cells slots mc ms ls _ X hR hP hl hL hS)
theorem ab_icmp_gt {a b off : Int} (tgt : Nat) (hd : decode y.2.1 pc = .ok (.if_icmp .gt off, 3)) (ht : (pc : Int) + off = (tgt : Int)) (kt : b < a → ab_T l E y d kc ks tgt L S h Q) (kf : ¬ b < a → ab_T l E y d kc ks (pc + 3) L S h Q) : ab_T l E y d kc ks pc L (vI b :: vI a :: S) h Q := by
  intro p e R s m args below meth c H locs cells slots mc ms ls st X hR hP hl hL hS
  obtain ⟨_, _, rfl, ⟨v, rfl, hv⟩, _, _, rfl, ⟨u, rfl, hu⟩, hS⟩ := hS
  exact lv_icmp_gt X.1 X.2.1 hd ht (fun g => kt (by have g2 := Int32.lt_iff_toInt_lt.mp g; simp only [hu, hv] at g2; exact g2) p e R s m args below meth c H locs cells slots mc ms ls _ X hR hP hl hL hS) (fun g => kf (fun g2 => g (Int32.lt_iff_toInt_lt.mpr (by simp only [hu, hv]; exact g2))) p e R s m args below meth c H locs cells slots mc ms ls _ X hR hP hl hL hS)
theorem ab_if_gt {a off : Int} (tgt : Nat) (hd : decode y.2.1 pc = .ok (.ifCond .gt off, 3)) (ht : (pc : Int) + off = (tgt : Int)) (kt : 0 < a → ab_T l E y d kc ks tgt L S h Q) (kf : ¬ 0 < a → ab_T l E y d kc ks (pc + 3) L S h Q) : ab_T l E y d kc ks pc L (vI a :: S) h Q := by
  intro p e R s m args below meth c H locs cells slots mc ms ls st X hR hP hl hL hS
  obtain ⟨_, _, rfl, ⟨u, rfl, hu⟩, hS⟩ := hS
  exact lv_if_gt X.1 X.2.1 hd ht (fun g => kt (by have g2 := Int32.lt_iff_toInt_lt.mp g; simp only [hu, Int32.toInt_zero] at g2; exact g2) p e R s m args below meth c H locs cells slots mc ms ls _ X hR hP hl hL hS) (fun g => kf (fun g2 => g (Int32.lt_iff_toInt_lt.mpr (by simp only [hu, Int32.toInt_zero]; exact g2))) p e R s m args below meth c H locs cells slots mc ms ls _ X hR hP hl hL hS)
theorem ab_icmp_le {a b off : Int} (tgt : Nat) (hd : decode y.2.1 pc = .ok (.if_icmp .le off, 3)) (ht : (pc : Int) + off = (tgt : Int)) (kt : a ≤ b → ab_T l E y d kc ks tgt L S h Q) (kf : ¬ a ≤ b → ab_T l E y d kc ks (pc + 3) L S h Q) : ab_T l E y d kc ks pc L (vI b :: vI a :: S) h Q := by
  intro p e R s m args below meth c H locs cells slots mc ms ls st X hR hP hl hL hS
  obtain ⟨_, _, rfl, ⟨v, rfl, hv⟩, _, _, rfl, ⟨u, rfl, hu⟩, hS⟩ := hS
  exact lv_icmp_le X.1 X.2.1 hd ht (fun g => kt (by have g2 := Int32.le_iff_toInt_le.mp g; simp only [hu, hv] at g2; exact g2) p e R s m args below meth c H locs cells slots mc ms ls _ X hR hP hl hL hS) (fun g => kf (fun g2 => g (Int32.le_iff_toInt_le.mpr (by simp only [hu, hv]; exact g2))) p e R s m args below meth c H locs cells slots mc ms ls _ X hR hP hl hL hS)
theorem ab_if_le {a off : Int} (tgt : Nat) (hd : decode y.2.1 pc = .ok (.ifCond .le off, 3)) (ht : (pc : Int) + off = (tgt : Int)) (kt : a ≤ 0 → ab_T l E y d kc ks tgt L S h Q) (kf : ¬ a ≤ 0 → ab_T l E y d kc ks (pc + 3) L S h Q) : ab_T l E y d kc ks pc L (vI a :: S) h Q := by
  intro p e R s m args below meth c H locs cells slots mc ms ls st X hR hP hl hL hS
  obtain ⟨_, _, rfl, ⟨u, rfl, hu⟩, hS⟩ := hS
  exact lv_if_le X.1 X.2.1 hd ht (fun g => kt (by have g2 := Int32.le_iff_toInt_le.mp g; simp only [hu, Int32.toInt_zero] at g2; exact g2) p e R s m args below meth c H locs cells slots mc ms ls _ X hR hP hl hL hS) (fun g => kf (fun g2 => g (Int32.le_iff_toInt_le.mpr (by simp only [hu, Int32.toInt_zero]; exact g2))) p e R s m args below meth c H locs cells slots mc ms ls _ X hR hP hl hL hS)
theorem ab_icmp_eq {a b off : Int} (tgt : Nat) (hd : decode y.2.1 pc = .ok (.if_icmp .eq off, 3)) (ht : (pc : Int) + off = (tgt : Int)) (kt : a = b → ab_T l E y d kc ks tgt L S h Q) (kf : ¬ a = b → ab_T l E y d kc ks (pc + 3) L S h Q) : ab_T l E y d kc ks pc L (vI b :: vI a :: S) h Q := by
  intro p e R s m args below meth c H locs cells slots mc ms ls st X hR hP hl hL hS
  obtain ⟨_, _, rfl, ⟨v, rfl, hv⟩, _, _, rfl, ⟨u, rfl, hu⟩, hS⟩ := hS
  exact lv_icmp_eq X.1 X.2.1 hd ht (fun g => kt (by rw [← hu, ← hv, g]) p e R s m args below meth c H locs cells slots mc ms ls _ X hR hP hl hL hS) (fun g => kf (fun g2 => g (Int32.toInt_inj.mp (by rw [hu, hv]; exact g2))) p e R s m args below meth c H locs cells slots mc ms ls _ X hR hP hl hL hS)
theorem ab_if_eq {a off : Int} (tgt : Nat) (hd : decode y.2.1 pc = .ok (.ifCond .eq off, 3)) (ht : (pc : Int) + off = (tgt : Int)) (kt : a = 0 → ab_T l E y d kc ks tgt L S h Q) (kf : ¬ a = 0 → ab_T l E y d kc ks (pc + 3) L S h Q) : ab_T l E y d kc ks pc L (vI a :: S) h Q := by
  intro p e R s m args below meth c H locs cells slots mc ms ls st X hR hP hl hL hS
  obtain ⟨_, _, rfl, ⟨u, rfl, hu⟩, hS⟩ := hS
  exact lv_if_eq X.1 X.2.1 hd ht (fun g => kt (by rw [← hu, g, Int32.toInt_zero]) p e R s m args below meth c H locs cells slots mc ms ls _ X hR hP hl hL hS) (fun g => kf (fun g2 => g (Int32.toInt_inj.mp (by rw [hu, Int32.toInt_zero]; exact g2))) p e R s m args below meth c H locs cells slots mc ms ls _ X hR hP hl hL hS)
theorem ab_icmp_ne {a b off : Int} (tgt : Nat) (hd : decode y.2.1 pc = .ok (.if_icmp .ne off, 3)) (ht : (pc : Int) + off = (tgt : Int)) (kt : ¬ a = b → ab_T l E y d kc ks tgt L S h Q) (kf : a = b → ab_T l E y d kc ks (pc + 3) L S h Q) : ab_T l E y d kc ks pc L (vI b :: vI a :: S) h Q := by
  intro p e R s m args below meth c H locs cells slots mc ms ls st X hR hP hl hL hS
  obtain ⟨_, _, rfl, ⟨v, rfl, hv⟩, _, _, rfl, ⟨u, rfl, hu⟩, hS⟩ := hS
  exact lv_icmp_ne X.1 X.2.1 hd ht (fun g => kt (fun g2 => g (Int32.toInt_inj.mp (by rw [hu, hv]; exact g2))) p e R s m args below meth c H locs cells slots mc ms ls _ X hR hP hl hL hS) (fun g => kf (by rw [← hu, ← hv, g]) p e R s m args below meth c H locs cells slots mc ms ls _ X hR hP hl hL hS)
theorem ab_if_ne {a off : Int} (tgt : Nat) (hd : decode y.2.1 pc = .ok (.ifCond .ne off, 3)) (ht : (pc : Int) + off = (tgt : Int)) (kt : ¬ a = 0 → ab_T l E y d kc ks tgt L S h Q) (kf : a = 0 → ab_T l E y d kc ks (pc + 3) L S h Q) : ab_T l E y d kc ks pc L (vI a :: S) h Q := by
  intro p e R s m args below meth c H locs cells slots mc ms ls st X hR hP hl hL hS
  obtain ⟨_, _, rfl, ⟨u, rfl, hu⟩, hS⟩ := hS
  exact lv_if_ne X.1 X.2.1 hd ht (fun g => kt (fun g2 => g (Int32.toInt_inj.mp (by rw [hu, Int32.toInt_zero]; exact g2))) p e R s m args below meth c H locs cells slots mc ms ls _ X hR hP hl hL hS) (fun g => kf (by rw [← hu, g, Int32.toInt_zero]) p e R s m args below meth c H locs cells slots mc ms ls _ X hR hP hl hL hS)
theorem ab_nonnull {r : Option Nat} {off : Int} (tgt : Nat) (hd : decode y.2.1 pc = .ok (.ifnonnull off, 3)) (ht : (pc : Int) + off = (tgt : Int)) (kt : ∀ a, r = some a → ab_T l E y d kc ks tgt L S h Q) (kf : r = none → ab_T l E y d kc ks (pc + 3) L S h Q) : ab_T l E y d kc ks pc L (vO r :: S) h Q := by
  intro p e R s m args below meth c H locs cells slots mc ms ls st X hR hP hl hL hS
  obtain ⟨w, _, rfl, hw, hS⟩ := hS
  cases r with
  | none =>
    cases (show w = .null from hw)
    exact lv_ifnonnullN X.1 X.2.1 hd (kf rfl p e R s m args below meth c H locs cells slots mc ms ls _ X hR hP hl hL hS)
  | some a =>
    cases (show w = .ref a from hw)
    exact lv_ifnonnull X.1 X.2.1 hd ht (kt a rfl p e R s m args below meth c H locs cells slots mc ms ls _ X hR hP hl hL hS)
theorem ab_ifnull {r : Option Nat} {off : Int} (tgt : Nat) (hd : decode y.2.1 pc = .ok (.ifnull off, 3)) (ht : (pc : Int) + off = (tgt : Int)) (kt : r = none → ab_T l E y d kc ks tgt L S h Q) (kf : ∀ a, r = some a → ab_T l E y d kc ks (pc + 3) L S h Q) : ab_T l E y d kc ks pc L (vO r :: S) h Q := by
  intro p e R s m args below meth c H locs cells slots mc ms ls st X hR hP hl hL hS
  obtain ⟨w, _, rfl, hw, hS⟩ := hS
  cases r with
  | none =>
    cases (show w = .null from hw)
    exact lv_ifnullN X.1 X.2.1 hd ht (kt rfl p e R s m args below meth c H locs cells slots mc ms ls _ X hR hP hl hL hS)
  | some a =>
    cases (show w = .ref a from hw)
    exact lv_ifnull X.1 X.2.1 hd (kf a rfl p e R s m args below meth c H locs cells slots mc ms ls _ X hR hP hl hL hS)
theorem ab_tableOut {a : Int} {dflt lo hi : Int} {offs : Array Int} {len : Nat} (tgt : Nat) (hd : decode y.2.1 pc = .ok (.tableswitch dflt lo hi offs, len)) (hh : a < lo ∨ hi < a) (ht : (pc : Int) + dflt = (tgt : Int)) (k : ab_T l E y d kc ks tgt L S h Q) : ab_T l E y d kc ks pc L (vI a :: S) h Q := by
  intro p e R s m args below meth c H locs cells slots mc ms ls st X hR hP hl hL hS
  obtain ⟨_, _, rfl, ⟨u, rfl, hu⟩, hS⟩ := hS
  exact lv_tableOut X.1 X.2.1 hd (by rw [hu]; exact hh) ht (k p e R s m args below meth c H locs cells slots mc ms ls _ X hR hP hl hL hS)
theorem ab_tableIn {a : Int} {dflt lo hi : Int} {offs : Array Int} {len : Nat} {off : Int} (tgt : Nat) (hd : decode y.2.1 pc = .ok (.tableswitch dflt lo hi offs, len)) (h1 : lo ≤ a) (h2 : a ≤ hi) (ho : offs[(a - lo).toNat]? = some off) (ht : (pc : Int) + off = (tgt : Int)) (k : ab_T l E y d kc ks tgt L S h Q) : ab_T l E y d kc ks pc L (vI a :: S) h Q := by
  intro p e R s m args below meth c H locs cells slots mc ms ls st X hR hP hl hL hS
  obtain ⟨_, _, rfl, ⟨u, rfl, hu⟩, hS⟩ := hS
  exact lv_tableIn X.1 X.2.1 hd (by rw [hu]; omega) (by rw [hu]; omega) (by rw [hu]; exact ho) ht (k p e R s m args below meth c H locs cells slots mc ms ls _ X hR hP hl hL hS)
end ABB
end
section
/-! rows over the heap -/
section ABH
theorem ab_f_eq {α : Type} {f : Int → α} {i j : Int} {x : α} (h : j = i) : ab_f f i x j = x := if_pos h
theorem ab_f_ne {α : Type} {f : Int → α} {i j : Int} {x : α} (h : ¬ j = i) : ab_f f i x j = f j := if_neg h
theorem ab_c.kept {E : AbE} {a : Nat} {c : AbC} {H H1 : Heap} (hc : ab_c E a c H) (hq : H1[a]? = H[a]?) : ab_c E a c H1 := by
  obtain ⟨g, o | q | q | q | q⟩ := c
  · obtain ⟨r, ws, h1, h2, h3, h4⟩ := hc
    exact ⟨r, ws, h1, h2, h3, h4.kept hq⟩
  · obtain ⟨cell, h1, h2⟩ := hc
    exact ⟨cell, by rw [hq]; exact h1, h2⟩
  · obtain ⟨cell, h1, h2⟩ := hc
    exact ⟨cell, by rw [hq]; exact h1, h2⟩
  · obtain ⟨cell, h1, h2⟩ := hc
    exact ⟨cell, by rw [hq]; exact h1, h2⟩
  · obtain ⟨⟨cell, h1, h2⟩, cell2, k, cm, h3, h4⟩ := hc
    exact ⟨⟨cell, by rw [hq]; exact h1, h2⟩, cell2, k, cm, by rw [hq]; exact h3, h4⟩
theorem ab_c.lt {E : AbE} {a : Nat} {c : AbC} {H : Heap} (hc : ab_c E a c H) : a < H.size := by
  obtain ⟨g, o | q | q | q | q⟩ := c
  · obtain ⟨r, ws, h1, h2, h3, cell, h4, -⟩ := hc
    exact (Array.getElem?_eq_some_iff.mp h4).1
  · obtain ⟨cell, h1, h2⟩ := hc
    exact (Array.getElem?_eq_some_iff.mp h1).1
  · obtain ⟨cell, h1, h2⟩ := hc
    exact (Array.getElem?_eq_some_iff.mp h1).1
  · obtain ⟨cell, h1, h2⟩ := hc
    exact (Array.getElem?_eq_some_iff.mp h1).1
  · obtain ⟨⟨cell, h1, h2⟩, -⟩ := hc
    exact (Array.getElem?_eq_some_iff.mp h1).1
theorem ab_P.set {E : AbE} {h : AbH} {H H1 : Heap} {a : Nat} {c0 c1 : AbC} (hP : ab_P E h H) (ha : h a = some c0) (hg : 2 ≤ c0.1) (he : ab_c E a c1 H1) (hz : H1.size = H.size) (oq : ∀ q : Nat, q ≠ a → H1[q]? = H[q]?) : ab_P E (ab_up h a c1) H1 := by
  have hA := (hP.2 a c0 ha).2 hg
  refine ⟨⟨by rw [hz]; exact hP.1.1, fun q hq => by rw [oq q (by omega)]; exact hP.1.2 q hq⟩, fun q c hc => ?_⟩
  unfold ab_up at hc
  by_cases e : q = a
  · subst e
    rw [if_pos rfl] at hc
    cases hc
    exact ⟨he, fun _ => hA⟩
  · rw [if_neg e] at hc
    exact ⟨(hP.2 q c hc).1.kept (oq q e), (hP.2 q c hc).2⟩
theorem ab_P.push {E : AbE} {h : AbH} {H H1 : Heap} {c1 : AbC} (hP : ab_P E h H) (he : ab_c E H.size c1 H1) (hz : H1.size = H.size + 1) (oq : ∀ q : Nat, q < H.size → H1[q]? = H[q]?) : ab_P E (ab_up h H.size c1) H1 := by
  refine ⟨⟨by rw [hz]; have := hP.1.1; omega, fun q hq => by rw [oq q (Nat.lt_of_lt_of_le hq hP.1.1)]; exact hP.1.2 q hq⟩, fun q c hc => ?_⟩
  unfold ab_up at hc
  by_cases e : q = H.size
  · subst e
    rw [if_pos rfl] at hc
    cases hc
    exact ⟨he, fun _ => hP.1.1⟩
  · rw [if_neg e] at hc
    exact ⟨(hP.2 q c hc).1.kept (oq q (hP.2 q c hc).1.lt), (hP.2 q c hc).2⟩
theorem ab_P.fresh {E : AbE} {h : AbH} {H : Heap} (hP : ab_P E h H) : h H.size = none := by
  cases hc : h H.size with
  | none => rfl
  | some c => exact absurd (hP.2 _ c hc).1.lt (Nat.lt_irrefl _)
theorem ab_vs_len : ∀ {xs : List AbV} {ws : List Value}, ab_vs xs ws → ws.length = xs.length
  | [], ws, hv => by rw [show ws = [] from hv]; rfl
  | x :: xs, ws, ⟨w, r, e, _, hr⟩ => by rw [e, List.length_cons, List.length_cons, ab_vs_len hr]
theorem ab_vs_get : ∀ {xs : List AbV} {ws : List Value} {k : Nat} {x : AbV}, ab_vs xs ws → xs[k]? = some x → ∃ w, ws[k]? = some w ∧ ab_v x w
  | [], ws, k, x, hv, hk => by simp at hk
  | z :: xs, ws, 0, x, ⟨w, r, e, hw, hr⟩, hk => by
    simp at hk
    subst hk
    exact ⟨w, by rw [e]; rfl, hw⟩
  | z :: xs, ws, k + 1, x, ⟨w, r, e, hw, hr⟩, hk => by
    rw [List.getElem?_cons_succ] at hk
    obtain ⟨u, h1, h2⟩ := ab_vs_get hr hk
    exact ⟨u, by rw [e, List.getElem?_cons_succ]; exact h1, h2⟩
theorem ab_vs_set : ∀ {xs : List AbV} {ws : List Value} {k : Nat} {x : AbV} {w : Value}, ab_vs xs ws → ab_v x w → ab_vs (xs.set k x) (ws.set k w)
  | [], ws, k, x, w, hv, hw => by rw [show ws = [] from hv]; exact rfl
  | z :: xs, ws, 0, x, w, ⟨u, r, e, hu, hr⟩, hw => by rw [e]; exact ⟨w, r, rfl, hw, hr⟩
  | z :: xs, ws, k + 1, x, w, ⟨u, r, e, hu, hr⟩, hw => by rw [e]; exact ⟨u, r.set k w, rfl, hu, ab_vs_set hr hw⟩
theorem ab_vs_app : ∀ {xs zs : List AbV} {ws us : List Value}, ab_vs xs ws → ab_vs zs us → ab_vs (xs ++ zs) (ws ++ us)
  | [], zs, ws, us, hv, hz => by rw [show ws = [] from hv]; exact hz
  | x :: xs, zs, ws, us, ⟨w, r, e, hw, hr⟩, hz => by rw [e]; exact ⟨w, r ++ us, rfl, hw, ab_vs_app hr hz⟩
theorem ab_vs_rev : ∀ {xs : List AbV} {ws : List Value}, ab_vs xs ws → ab_vs xs.reverse ws.reverse
  | [], ws, hv => by rw [show ws = [] from hv]; exact rfl
  | x :: xs, ws, ⟨w, r, e, hw, hr⟩ => by rw [e, List.reverse_cons, List.reverse_cons]; exact ab_vs_app (ab_vs_rev hr) ⟨w, [], rfl, hw, rfl⟩
theorem ab_vs_split : ∀ {xs zs : List AbV} {ws : List Value}, ab_vs (xs ++ zs) ws → ∃ us vs, ws = us ++ vs ∧ ab_vs xs us ∧ ab_vs zs vs
  | [], zs, ws, hv => ⟨[], ws, rfl, rfl, hv⟩
  | x :: xs, zs, ws, ⟨w, r, e, hw, hr⟩ => by
    obtain ⟨us, vs, h1, h2, h3⟩ := ab_vs_split hr
    exact ⟨w :: us, vs, by rw [e, h1]; rfl, ⟨w, us, rfl, hw, h2⟩, h3⟩
/-- a class of ab_cl: its number, its words among the tables', its fields' types and names -/
def ab_ok (ci : Nat) (C : String) (T : u_T) (N : Nat) (ty : Nat → FieldType) : Prop := ab_cl[ci]? = some (C, T, N) ∧ (∀ w ∈ u_ws C T N, w ∈ lw_tbl) ∧ (∀ k, k < N → parseFieldDescriptor (T k).2.2.1 = some (ty k)) ∧ ∀ a, a < N → ∀ b, b < N → a ≠ b → (T a).2.1 ≠ (T b).2.1
theorem ab_lays {l : Launch} {E : AbE} {C : String} {T : u_T} {N : Nat} (hG : ab_G l E) (hin : ∀ w ∈ u_ws C T N, w ∈ lw_tbl) {U : State} (hW : E.1.WarmedH U.vm) (a : Array Value) : ∀ w ∈ u_ws C T N, w.before a U = true := by
  intro w hw
  refine ab_word hG (hin w hw) ?_ hW a
  obtain ⟨k, -, e⟩ := List.mem_map.mp hw
  rw [← e]
  unfold u_lay
  split <;> rfl
def ab_fit (t : FieldType) (x : AbV) : Prop := match t, x with
  | .int, .inl _ => True
  | .boolean, .inl i => i = 0 ∨ i = 1
  | .long, .inr (.inl _) => True
  | .array _, .inr (.inr _) => True
  | .object _, .inr (.inr _) => True
  | _, _ => False
theorem ab_fits {t : FieldType} {x : AbV} {w : Value} (hf : ab_fit t x) (hw : ab_v x w) : narrow t w = w ∧ fits t w = true := by
  cases t with
  | int =>
    rcases x with i | i | r
    · obtain ⟨v, rfl, -⟩ := hw
      exact ⟨rfl, rfl⟩
    · cases hf
    · cases hf
  | boolean =>
    rcases x with i | i | r
    · obtain ⟨v, rfl, hv⟩ := hw
      rcases (show i = 0 ∨ i = 1 from hf) with e | e
      · rw [e] at hv
        rw [Int32.toInt_inj.mp (show v.toInt = (0 : Int32).toInt from hv)]
        exact ⟨by decide +kernel, by decide +kernel⟩
      · rw [e] at hv
        rw [Int32.toInt_inj.mp (show v.toInt = (1 : Int32).toInt from hv)]
        exact ⟨by decide +kernel, by decide +kernel⟩
    · cases hf
    · cases hf
  | long =>
    rcases x with i | i | r
    · cases hf
    · obtain ⟨v, rfl, -⟩ := hw
      exact ⟨rfl, rfl⟩
    · cases hf
  | array t0 =>
    rcases x with i | i | r
    · cases hf
    · cases hf
    · cases r <;> (rw [show w = _ from hw]; exact ⟨rfl, rfl⟩)
  | object t0 =>
    rcases x with i | i | r
    · cases hf
    · cases hf
    · cases r <;> (rw [show w = _ from hw]; exact ⟨rfl, rfl⟩)
  | _ => rcases x with i | i | r <;> cases hf
variable {l : Launch} {E : AbE} {y : AbY} {d kc ks pc : Nat} {L : List (Option AbV)} {S : List AbV} {h : AbH} {Q : AbO → AbH → Prop}
theorem ab_get {ci N k ix g a : Nat} {C : String} {T : u_T} {ty : Nat → FieldType} {fs : List AbV} {x : AbV} (ok : ab_ok ci C T N ty) (ha : h a = some (kO g ci fs)) (hx : fs[k]? = some x) (hw : Cond.fieldLink y.1.cls ix C (T k).2.1 (T k).2.2.1 ∈ lw_tbl) (ht : (T k).1 = C) (hd : decode y.2.1 pc = .ok (.getfield ix, 3))
    (K : ab_T l E y d kc ks (pc + 3) L (x :: S) h Q) : ab_T l E y d kc ks pc L (vR a :: S) h Q := by
  intro p e R s m args below meth c H locs cells slots mc ms ls st X hR hP hl hL hS
  obtain ⟨hx9, hb, hml, hown, hr, hlk, hnm, htb, hW, ho, hG⟩ := id X
  obtain ⟨w, rst, rfl, hwv, hS⟩ := hS
  cases (show w = .ref a from hwv)
  obtain ⟨hc, hin, hty, hnn⟩ := ok
  obtain ⟨r, ws, h1, h2, h3, cell, q1, q2, q3, q4⟩ := (hP.2 a _ ha).1
  cases Option.some.inj (h1.symm.trans hc)
  have hk : k < N := Nat.lt_of_lt_of_eq (List.getElem?_eq_some_iff.mp hx).1 h2
  obtain ⟨u, hu, huv⟩ := ab_vs_get h3 hx
  obtain ⟨hSl, hfc, kC, hkC, hkind⟩ := (ab_K hG hW).1 ci _ hc
  obtain ⟨cf, kf, fi, f, hi, hsl⟩ := hSl k hk
  have hla := u_lays (k := k) (ab_lays hG hin hW args) (fun w h => h) hk
  refine W.getf hx9 hb hown (ab_word hG hw rfl hW args) (by rw [← ht]; exact hi) (u_facts hfc hkC hla hi).1 q1 (by rw [q3]; exact fun h => by cases h) (v := u) ?_ rfl rfl hd (K p e R s m args below meth c H locs cells slots mc ms ls _ X hR hP hl hL ⟨_, _, rfl, huv, hS⟩)
  rw [hsl, q4 k hk]
  simp [vp_V, hu]
theorem ab_getN {ci N k ix g a : Nat} {C host : String} {T : u_T} {ty : Nat → FieldType} {fs : List AbV} {x : AbV} (ok : ab_ok ci C T N ty) (ha : h a = some (kO g ci fs)) (hx : fs[k]? = some x) (hw : Cond.fieldLinkNest y.1.cls ix C (T k).2.1 (T k).2.2.1 host ∈ lw_tbl) (ht : (T k).1 = C) (hd : decode y.2.1 pc = .ok (.getfield ix, 3))
    (K : ab_T l E y d kc ks (pc + 3) L (x :: S) h Q) : ab_T l E y d kc ks pc L (vR a :: S) h Q := by
  intro p e R s m args below meth c H locs cells slots mc ms ls st X hR hP hl hL hS
  obtain ⟨hx9, hb, hml, hown, hr, hlk, hnm, htb, hW, ho, hG⟩ := id X
  obtain ⟨w, rst, rfl, hwv, hS⟩ := hS
  cases (show w = .ref a from hwv)
  obtain ⟨hc, hin, hty, hnn⟩ := ok
  obtain ⟨r, ws, h1, h2, h3, cell, q1, q2, q3, q4⟩ := (hP.2 a _ ha).1
  cases Option.some.inj (h1.symm.trans hc)
  have hk : k < N := Nat.lt_of_lt_of_eq (List.getElem?_eq_some_iff.mp hx).1 h2
  obtain ⟨u, hu, huv⟩ := ab_vs_get h3 hx
  obtain ⟨hSl, hfc, kC, hkC, hkind⟩ := (ab_K hG hW).1 ci _ hc
  obtain ⟨cf, kf, fi, f, hi, hsl⟩ := hSl k hk
  have hla := u_lays (k := k) (ab_lays hG hin hW args) (fun w h => h) hk
  refine va_Wgetf hx9 hb hown (va_Nw.use rfl (va_Nw.warmF hW (ab_nw hG hw rfl))) (by rw [← ht]; exact hi) (u_facts hfc hkC hla hi).1 q1 (by rw [q3]; exact fun h => by cases h) (v := u) ?_ rfl rfl hd (K p e R s m args below meth c H locs cells slots mc ms ls _ X hR hP hl hL ⟨_, _, rfl, huv, hS⟩)
  rw [hsl, q4 k hk]
  simp [vp_V, hu]
theorem ab_apart {C : String} {T : u_T} {N ci : Nat} {ty : Nat → FieldType} (ok : ab_ok ci C T N ty) (hG : ab_G l E) {U : State} (hW : E.1.WarmedH U.vm) : ∀ x z, x < N → z < N → x ≠ z → E.2.2.2 ci x ≠ E.2.2.2 ci z := by
  obtain ⟨hc, hin, hty, hnn⟩ := ok
  intro x z hx hz hne
  obtain ⟨hS, -⟩ := (ab_K hG hW).1 ci _ hc
  obtain ⟨_, _, _, fa, hia, ea⟩ := hS x hx
  obtain ⟨_, _, _, fb, hib, eb⟩ := hS z hz
  show (E.2.2.1, E.2.2.2).2 ci x ≠ (E.2.2.1, E.2.2.2).2 ci z
  rw [← ea, ← eb]
  refine u_apart (u_lays (ab_lays hG hin hW #[]) (fun w h => h) hx) (u_lays (ab_lays hG hin hW #[]) (fun w h => h) hz) hia hib ?_
  rw [(State.fieldFound?_type hia (hty x hx)).1, (State.fieldFound?_type hib (hty z hz)).1]
  exact hnn x hx z hz hne
theorem ab_put {ci N k ix g a : Nat} {C : String} {T : u_T} {ty : Nat → FieldType} {fs : List AbV} {x : AbV} (ok : ab_ok ci C T N ty) (ha : h a = some (kO g ci fs)) (hg : 2 ≤ g) (hk : k < N) (hf : ab_fit (ty k) x) (hw : Cond.fieldLink y.1.cls ix C (T k).2.1 (T k).2.2.1 ∈ lw_tbl) (ht : (T k).1 = C) (hfin : (T k).2.2.2 = false ∨ ((T k).2.2.2 = true ∧ y.1.name = "<init>" ∧ C = y.1.cls)) (hd : decode y.2.1 pc = .ok (.putfield ix, 3))
    (K : ab_T l E y d kc ks (pc + 3) L S (ab_up h a (kO g ci (fs.set k x))) Q) : ab_T l E y d kc ks pc L (x :: vR a :: S) h Q := by
  intro p e R s m args below meth c H locs cells slots mc ms ls st X hR hP hl hL hS
  obtain ⟨hx9, hb, hml, hown, hr, hlk, hnm, htb, hW, ho, hG⟩ := id X
  obtain ⟨v, rst0, rfl, hv, w, rst, rfl, hwv, hS⟩ := hS
  cases (show w = .ref a from hwv)
  have hap := ab_apart ok hG hW
  obtain ⟨hc, hin, hty, hnn⟩ := ok
  obtain ⟨r, ws, h1, h2, h3, cell, q1, q2, q3, q4⟩ := (hP.2 a _ ha).1
  cases Option.some.inj (h1.symm.trans hc)
  obtain ⟨hSl, hfc, kC, hkC, hkind⟩ := (ab_K hG hW).1 ci _ hc
  obtain ⟨cf, kf, fi, f, hi, hsl⟩ := hSl k hk
  have hts := ab_lays hG hin hW args
  have hla := u_lays (k := k) hts (fun w h => h) hk
  have hst := (u_facts hfc hkC hla hi).1
  obtain ⟨n1, n2⟩ := ab_fits hf hv
  have hi' : s.fieldFound? C (T k).2.1 (T k).2.2.1 = some (cf, kf, fi, f) := by rw [← ht]; exact hi
  have hlen : k < ws.length := by rw [ab_vs_len h3, h2]; exact hk
  have fin : ∀ H' : Heap, H'[a]? = some (cell.setSlot f.slot v) → H'.size = H.size → (∀ q, q ≠ a → H'[q]? = H[q]?) → W p l e R s m args below meth c H' (locs ++ [⟨a, f.slot⟩]) cells slots (vx_MQ below (ab_Q E Q) (ab_QX E Q) args s mc ms (ab_A E)) (F0 m (pc + 3) ls rst) := by
    intro H' e1 e2 e3
    rw [hsl] at e1
    refine K p e R s m args below meth c H' _ cells slots mc ms ls _ X hR (hP.set ha hg (c1 := kO g ci (fs.set k x)) ?_ e2 e3) ?_ hL hS
    · exact ⟨_, ws.set k v, hc, by rw [List.length_set]; exact h2, ab_vs_set h3 hv, t_OB.to (V := updV (vp_V ws) k v) ⟨_, e1, q2, q3, t_set q4 hap hk v⟩ (fun j _ => vp_updV_set hlen v j)⟩
    · intro z hz
      rcases List.mem_append.mp hz with g1 | g1
      · exact hl z g1
      · rw [List.mem_singleton.mp g1]
        exact (hP.2 a _ ha).2 hg
  have hlay := hts _ (u_in_lay hk)
  unfold u_lay at hlay
  rcases hfin with hfin | ⟨hfin, hini, hdecl⟩
  · rw [if_neg (by rw [hfin]; decide)] at hlay
    have h6 := u_store hfc hkC hkind hlay hi (hty k hk) n1 n2
    exact W.putK hx9 hb (f := f) ⟨hown, ab_word hG hw rfl hW args, ⟨_, _, _, hi'⟩, hst⟩ (by rw [q2]; exact h6) q1 q3 (by rw [hsl]; exact k2_hasslot (q4 k hk)) rfl rfl hd fin
  · rw [if_pos hfin] at hlay
    have hcf : m.cls = cf := by
      obtain ⟨_, _, c', _, _, _, -, -, hf', -, -, -, hown2, -⟩ := Cond.laysFinal_spec hlay
      have e1 : c' = cf := by have := hi.symm.trans hf'; simp at this; exact this.1.symm
      rw [ht, hdecl] at hown2
      rw [← e1]; exact Option.some.inj (hown.symm.trans hown2)
    have h6 := u_fits hfc hkC hkind (Or.inr hlay) hi (hty k hk) n1 n2
    exact W.putFinK hx9 hb hown (ab_word hG hw rfl hW args) hi' hst hcf (hnm.trans hini) (by rw [q2]; exact h6) q1 q3 (by rw [hsl]; exact k2_hasslot (q4 k hk)) rfl rfl hd fin
/-! rows: reading -/
theorem ab_in {v : Int32} {i : Int} {n : Nat} {cell : Cell} (hv : v.toInt = i) (h0 : 0 ≤ i) (h1 : i < n) (hn : cell.slots.size = n) : ¬ (v < 0 ∨ cell.slots.size ≤ v.toNatClampNeg) := by
  have e := ab_nat (v := v) (by omega)
  rintro (g | g)
  · have := Int32.lt_iff_toInt_lt.mp g
    rw [Int32.toInt_zero] at this
    omega
  · omega
theorem ab_ald {v : Int32} {i : Int} {n : Nat} {cell : Cell} {P : Nat → Value → Prop} (hv : v.toInt = i) (h0 : 0 ≤ i) (h1 : i < n) (hj : ∀ j : Nat, j < n → ∃ w : Value, cell.slots[j]? = some w ∧ P j w) : ∃ w : Value, cell.slots[v.toNatClampNeg]? = some w ∧ P v.toNatClampNeg w ∧ ((v.toNatClampNeg : Nat) : Int) = i := by
  have e := ab_nat (v := v) (by omega)
  obtain ⟨w, g1, g2⟩ := hj v.toNatClampNeg (by omega)
  exact ⟨w, g1, g2, by omega⟩
theorem ab_iald {g a n : Nat} {f : Int → Int} {i : Int} (ha : h a = some (kI g n f)) (h0 : 0 ≤ i) (h1 : i < n) (hd : decode y.2.1 pc = .ok (.iaload, 1)) (K : ab_T l E y d kc ks (pc + 1) L (vI (f i) :: S) h Q) : ab_T l E y d kc ks pc L (vI i :: vR a :: S) h Q := by
  intro p e R s m args below meth c H locs cells slots mc ms ls st X hR hP hl hL hS
  obtain ⟨hx9, hb, hml, hown, hr, hlk, hnm, htb, hW, ho, hG⟩ := id X
  obtain ⟨_, _, rfl, ⟨v, rfl, hv⟩, w, rst, rfl, hwv, hS⟩ := hS
  cases (show w = .ref a from hwv)
  obtain ⟨cell, q1, q2, q3, q4, q5, q6⟩ := (hP.2 a _ ha).1
  obtain ⟨w, g1, ⟨u, rfl, hu⟩, g3⟩ := ab_ald hv h0 h1 q6
  exact W.iald hx9 hb q1 (State.isArrayOf_alike hW.alike q2) q3 (ab_in hv h0 h1 q4) g1 rfl rfl hd (K p e R s m args below meth c H locs cells slots mc ms ls _ X hR hP hl hL ⟨_, _, rfl, ⟨u, rfl, by rw [hu, g3]⟩, hS⟩)
theorem ab_lald {g a n : Nat} {f : Int → Int} {i : Int} (ha : h a = some (kJ g n f)) (h0 : 0 ≤ i) (h1 : i < n) (hd : decode y.2.1 pc = .ok (.laload, 1)) (K : ab_T l E y d kc ks (pc + 1) L (vL (f i) :: S) h Q) : ab_T l E y d kc ks pc L (vI i :: vR a :: S) h Q := by
  intro p e R s m args below meth c H locs cells slots mc ms ls st X hR hP hl hL hS
  obtain ⟨hx9, hb, hml, hown, hr, hlk, hnm, htb, hW, ho, hG⟩ := id X
  obtain ⟨_, _, rfl, ⟨v, rfl, hv⟩, w, rst, rfl, hwv, hS⟩ := hS
  cases (show w = .ref a from hwv)
  obtain ⟨cell, q1, q2, q3, q4, q5, q6⟩ := (hP.2 a _ ha).1
  obtain ⟨w, g1, ⟨u, rfl, hu⟩, g3⟩ := ab_ald hv h0 h1 q6
  exact W.lald hx9 hb q1 (State.isArrayOf_alike hW.alike q2) q3 (ab_in hv h0 h1 q4) g1 rfl rfl hd (K p e R s m args below meth c H locs cells slots mc ms ls _ X hR hP hl hL ⟨_, _, rfl, ⟨u, rfl, by rw [hu, g3]⟩, hS⟩)
theorem ab_zald {g a n : Nat} {f : Int → Int} {i : Int} (ha : h a = some (kZ g n f)) (h0 : 0 ≤ i) (h1 : i < n) (hd : decode y.2.1 pc = .ok (.baload, 1)) (K : ab_T l E y d kc ks (pc + 1) L (vI (f i) :: S) h Q) : ab_T l E y d kc ks pc L (vI i :: vR a :: S) h Q := by
  intro p e R s m args below meth c H locs cells slots mc ms ls st X hR hP hl hL hS
  obtain ⟨hx9, hb, hml, hown, hr, hlk, hnm, htb, hW, ho, hG⟩ := id X
  obtain ⟨_, _, rfl, ⟨v, rfl, hv⟩, w, rst, rfl, hwv, hS⟩ := hS
  cases (show w = .ref a from hwv)
  obtain ⟨cell, q1, q2, q3, q4, q5, q6⟩ := (hP.2 a _ ha).1
  obtain ⟨w, g1, ⟨u, rfl, hu⟩, g3⟩ := ab_ald hv h0 h1 q6
  exact W.zald hx9 hb q1 (State.isArrayOf_alike hW.alike q2) q3 (ab_in hv h0 h1 q4) g1 rfl rfl hd (K p e R s m args below meth c H locs cells slots mc ms ls _ X hR hP hl hL ⟨_, _, rfl, ⟨u, rfl, by rw [hu, g3]⟩, hS⟩)
theorem ab_aald {g a n : Nat} {C : String} {f : Int → Option Nat} {i : Int} (ha : h a = some (kA g C n f)) (h0 : 0 ≤ i) (h1 : i < n) (hd : decode y.2.1 pc = .ok (.aaload, 1)) (K : ab_T l E y d kc ks (pc + 1) L (vO (f i) :: S) h Q) : ab_T l E y d kc ks pc L (vI i :: vR a :: S) h Q := by
  intro p e R s m args below meth c H locs cells slots mc ms ls st X hR hP hl hL hS
  obtain ⟨hx9, hb, hml, hown, hr, hlk, hnm, htb, hW, ho, hG⟩ := id X
  obtain ⟨_, _, rfl, ⟨v, rfl, hv⟩, w, rst, rfl, hwv, hS⟩ := hS
  cases (show w = .ref a from hwv)
  obtain ⟨⟨cell, q1, q2, q3, q4, q5, q6⟩, -⟩ := (hP.2 a _ ha).1
  obtain ⟨w, g1, g2, g3⟩ := ab_ald hv h0 h1 q6
  exact W.aald hx9 hb q1 (State.isArrayOf_alike hW.alike q2) rfl q3 (ab_in hv h0 h1 q4) g1 rfl rfl hd (K p e R s m args below meth c H locs cells slots mc ms ls _ X hR hP hl hL ⟨_, _, rfl, by rw [← g3]; exact g2, hS⟩)
theorem ab_len32 {n : Nat} (hn : n < 2147483648) : (n.toInt32).toInt = n := by
  show (Int32.ofNat n).toInt = n
  rw [Int32.toInt_ofNat', ab_bm (by omega) (by omega)]
theorem ab_alen {g a n : Nat} {f : Int → Int} (ha : h a = some (kI g n f)) (hd : decode y.2.1 pc = .ok (.arraylength, 1)) (K : ab_T l E y d kc ks (pc + 1) L (vI n :: S) h Q) : ab_T l E y d kc ks pc L (vR a :: S) h Q := by
  intro p e R s m args below meth c H locs cells slots mc ms ls st X hR hP hl hL hS
  obtain ⟨hx9, hb, hml, hown, hr, hlk, hnm, htb, hW, ho, hG⟩ := id X
  obtain ⟨w, rst, rfl, hwv, hS⟩ := hS
  cases (show w = .ref a from hwv)
  obtain ⟨cell, q1, q2, q3, q4, q5, q6⟩ := (hP.2 a _ ha).1
  exact W.alen hx9 hb q1 (State.isArrayOf_alike hW.alike q2) rfl rfl rfl hd (K p e R s m args below meth c H locs cells slots mc ms ls _ X hR hP hl hL ⟨_, _, rfl, ⟨_, rfl, by rw [q4]; exact ab_len32 q5⟩, hS⟩)
theorem ab_alenJ {g a n : Nat} {f : Int → Int} (ha : h a = some (kJ g n f)) (hd : decode y.2.1 pc = .ok (.arraylength, 1)) (K : ab_T l E y d kc ks (pc + 1) L (vI n :: S) h Q) : ab_T l E y d kc ks pc L (vR a :: S) h Q := by
  intro p e R s m args below meth c H locs cells slots mc ms ls st X hR hP hl hL hS
  obtain ⟨hx9, hb, hml, hown, hr, hlk, hnm, htb, hW, ho, hG⟩ := id X
  obtain ⟨w, rst, rfl, hwv, hS⟩ := hS
  cases (show w = .ref a from hwv)
  obtain ⟨cell, q1, q2, q3, q4, q5, q6⟩ := (hP.2 a _ ha).1
  exact W.alen hx9 hb q1 (State.isArrayOf_alike hW.alike q2) rfl rfl rfl hd (K p e R s m args below meth c H locs cells slots mc ms ls _ X hR hP hl hL ⟨_, _, rfl, ⟨_, rfl, by rw [q4]; exact ab_len32 q5⟩, hS⟩)
theorem ab_alenA {g a n : Nat} {C : String} {f : Int → Option Nat} (ha : h a = some (kA g C n f)) (hd : decode y.2.1 pc = .ok (.arraylength, 1)) (K : ab_T l E y d kc ks (pc + 1) L (vI n :: S) h Q) : ab_T l E y d kc ks pc L (vR a :: S) h Q := by
  intro p e R s m args below meth c H locs cells slots mc ms ls st X hR hP hl hL hS
  obtain ⟨hx9, hb, hml, hown, hr, hlk, hnm, htb, hW, ho, hG⟩ := id X
  obtain ⟨w, rst, rfl, hwv, hS⟩ := hS
  cases (show w = .ref a from hwv)
  obtain ⟨⟨cell, q1, q2, q3, q4, q5, q6⟩, -⟩ := (hP.2 a _ ha).1
  exact W.alen hx9 hb q1 (State.isArrayOf_alike hW.alike q2) rfl rfl rfl hd (K p e R s m args below meth c H locs cells slots mc ms ls _ X hR hP hl hL ⟨_, _, rfl, ⟨_, rfl, by rw [q4]; exact ab_len32 q5⟩, hS⟩)
/-! rows: writing -/
theorem ab_ast {s0 : State} {ty : FieldType} {n : Nat} {P P' : Nat → Value → Prop} {a : Nat} {H H' : Heap} {cell : Cell} {j : Nat} {w : Value} (q1 : H[a]? = some cell) (q2 : s0.isArrayOf cell ty) (q3 : cell.vm ≠ .unknown) (q4 : cell.slots.size = n) (q5 : n < 2147483648) (q6 : ∀ j : Nat, j < n → ∃ w : Value, cell.slots[j]? = some w ∧ P j w)
    (hj : j < n) (e1 : H'[a]? = some (cell.setSlot j w)) (hw : P' j w) (hP : ∀ (k : Nat) (u : Value), k ≠ j → P k u → P' k u) : ab_arr s0 ty n P' a H' := by
  refine ⟨_, e1, q2, q3, by simp [Cell.setSlot, q4], q5, fun k hk => ?_⟩
  by_cases e : k = j
  · subst e
    exact ⟨w, by simp [Cell.setSlot, q4, hk], hw⟩
  · obtain ⟨u, g1, g2⟩ := q6 k hk
    exact ⟨u, by simp [Cell.setSlot, Ne.symm e, g1], hP k u e g2⟩
theorem ab_locs {E : AbE} {locs : List Loc} {a i : Nat} (hl : ∀ z ∈ locs, ab_A E z.base) (ha : E.1.heap.size ≤ a) : ∀ z ∈ locs ++ [⟨a, i⟩], ab_A E z.base := by
  intro z hz
  rcases List.mem_append.mp hz with g1 | g1
  · exact hl z g1
  · rw [List.mem_singleton.mp g1]
    exact ha
theorem ab_iast {g a n : Nat} {f : Int → Int} {i x : Int} (ha : h a = some (kI g n f)) (hg : 2 ≤ g) (h0 : 0 ≤ i) (h1 : i < n) (hd : decode y.2.1 pc = .ok (.iastore, 1)) (K : ab_T l E y d kc ks (pc + 1) L S (ab_up h a (kI g n (ab_f f i x))) Q) : ab_T l E y d kc ks pc L (vI x :: vI i :: vR a :: S) h Q := by
  intro p e R s m args below meth c H locs cells slots mc ms ls st X hR hP hl hL hS
  obtain ⟨hx9, hb, hml, hown, hr, hlk, hnm, htb, hW, ho, hG⟩ := id X
  obtain ⟨_, _, rfl, ⟨u, rfl, hu⟩, _, _, rfl, ⟨v, rfl, hv⟩, w, rst, rfl, hwv, hS⟩ := hS
  cases (show w = .ref a from hwv)
  obtain ⟨cell, q1, q2, q3, q4, q5, q6⟩ := (hP.2 a _ ha).1
  have en := ab_nat (v := v) (by omega)
  refine W.iast hx9 hb q1 (State.isArrayOf_alike hW.alike q2) q3 (ab_in hv h0 h1 q4) rfl rfl hd fun H' e1 e2 e3 => ?_
  refine K p e R s m args below meth c H' _ cells slots mc ms ls _ X hR (hP.set ha hg (c1 := kI g n (ab_f f i x)) ?_ e2 e3) (ab_locs hl ((hP.2 a _ ha).2 hg)) hL hS
  refine ab_ast q1 q2 q3 q4 q5 q6 (by omega) e1 ⟨u, rfl, ?_⟩ ?_
  · exact hu.trans (ab_f_eq (by omega)).symm
  · rintro k _ hk ⟨z, rfl, hz⟩
    exact ⟨z, rfl, hz.trans (ab_f_ne (by omega)).symm⟩
theorem ab_last {g a n : Nat} {f : Int → Int} {i x : Int} (ha : h a = some (kJ g n f)) (hg : 2 ≤ g) (h0 : 0 ≤ i) (h1 : i < n) (hd : decode y.2.1 pc = .ok (.lastore, 1)) (K : ab_T l E y d kc ks (pc + 1) L S (ab_up h a (kJ g n (ab_f f i x))) Q) : ab_T l E y d kc ks pc L (vL x :: vI i :: vR a :: S) h Q := by
  intro p e R s m args below meth c H locs cells slots mc ms ls st X hR hP hl hL hS
  obtain ⟨hx9, hb, hml, hown, hr, hlk, hnm, htb, hW, ho, hG⟩ := id X
  obtain ⟨_, _, rfl, ⟨u, rfl, hu⟩, _, _, rfl, ⟨v, rfl, hv⟩, w, rst, rfl, hwv, hS⟩ := hS
  cases (show w = .ref a from hwv)
  obtain ⟨cell, q1, q2, q3, q4, q5, q6⟩ := (hP.2 a _ ha).1
  have en := ab_nat (v := v) (by omega)
  refine W.last hx9 hb q1 (State.isArrayOf_alike hW.alike q2) q3 (ab_in hv h0 h1 q4) rfl rfl hd fun H' e1 e2 e3 => ?_
  refine K p e R s m args below meth c H' _ cells slots mc ms ls _ X hR (hP.set ha hg (c1 := kJ g n (ab_f f i x)) ?_ e2 e3) (ab_locs hl ((hP.2 a _ ha).2 hg)) hL hS
  refine ab_ast q1 q2 q3 q4 q5 q6 (by omega) e1 ⟨u, rfl, ?_⟩ ?_
  · exact hu.trans (ab_f_eq (by omega)).symm
  · rintro k _ hk ⟨z, rfl, hz⟩
    exact ⟨z, rfl, hz.trans (ab_f_ne (by omega)).symm⟩
theorem ab_zast {g a n : Nat} {f : Int → Int} {i x : Int} (ha : h a = some (kZ g n f)) (hg : 2 ≤ g) (hx : x = 0 ∨ x = 1) (h0 : 0 ≤ i) (h1 : i < n) (hd : decode y.2.1 pc = .ok (.bastore, 1)) (K : ab_T l E y d kc ks (pc + 1) L S (ab_up h a (kZ g n (ab_f f i x))) Q) : ab_T l E y d kc ks pc L (vI x :: vI i :: vR a :: S) h Q := by
  intro p e R s m args below meth c H locs cells slots mc ms ls st X hR hP hl hL hS
  obtain ⟨hx9, hb, hml, hown, hr, hlk, hnm, htb, hW, ho, hG⟩ := id X
  obtain ⟨_, _, rfl, ⟨u, rfl, hu⟩, _, _, rfl, ⟨v, rfl, hv⟩, w, rst, rfl, hwv, hS⟩ := hS
  cases (show w = .ref a from hwv)
  obtain ⟨cell, q1, q2, q3, q4, q5, q6⟩ := (hP.2 a _ ha).1
  have en := ab_nat (v := v) (by omega)
  have hnar : narrow .boolean (.int u) = .int u := (ab_fits (t := .boolean) (x := vI x) hx ⟨u, rfl, hu⟩).1
  refine W.zast hx9 hb q1 (State.isArrayOf_alike hW.alike q2) q3 (ab_in hv h0 h1 q4) rfl rfl hd fun H' e1 e2 e3 => ?_
  rw [show (narrow .boolean (.int u)) = .int u from hnar] at e1
  refine K p e R s m args below meth c H' _ cells slots mc ms ls _ X hR (hP.set ha hg (c1 := kZ g n (ab_f f i x)) ?_ e2 e3) (ab_locs hl ((hP.2 a _ ha).2 hg)) hL hS
  refine ab_ast q1 q2 q3 q4 q5 q6 (by omega) e1 ⟨u, rfl, ?_⟩ ?_
  · exact hu.trans (ab_f_eq (by omega)).symm
  · rintro k _ hk ⟨z, rfl, hz⟩
    exact ⟨z, rfl, hz.trans (ab_f_ne (by omega)).symm⟩
theorem ab_aast {g g2 a n v9 ci : Nat} {C : String} {r : vw_C} {f : Int → Option Nat} {i : Int} {fs : List AbV} (ha : h a = some (kA g C n f)) (hg : 2 ≤ g) (hb9 : h v9 = some (kO g2 ci fs)) (hc : ab_cl[ci]? = some r) (hcs : Cond.castable r.1 C ∈ lw_tbl ∨ r.1 = C) (h0 : 0 ≤ i) (h1 : i < n) (hd : decode y.2.1 pc = .ok (.aastore, 1)) (K : ab_T l E y d kc ks (pc + 1) L S (ab_up h a (kA g C n (ab_f f i (some v9)))) Q) : ab_T l E y d kc ks pc L (vR v9 :: vI i :: vR a :: S) h Q := by
  intro p e R s m args below meth c H locs cells slots mc ms ls st X hR hP hl hL hS
  obtain ⟨hx9, hb, hml, hown, hr, hlk, hnm, htb, hW, ho, hG⟩ := id X
  obtain ⟨w9, _, rfl, hw9, _, _, rfl, ⟨v, rfl, hv⟩, w, rst, rfl, hwv, hS⟩ := hS
  cases (show w = .ref a from hwv)
  cases (show w9 = .ref v9 from hw9)
  obtain ⟨⟨cell, q1, q2, q3, q4, q5, q6⟩, cell2, k, comp, p1, p2, p3, p4⟩ := (hP.2 a _ ha).1
  cases Option.some.inj (q1.symm.trans p1)
  obtain ⟨r9, ws, t1, t2, t3, cv, u1, u2, u3, -⟩ := (hP.2 v9 _ hb9).1
  cases Option.some.inj (t1.symm.trans hc)
  have hKs := (ab_K hG hW).1 ci _ hc
  obtain ⟨hfc, kC, hkC, hkind⟩ := hKs.2
  obtain ⟨k', hk', hke⟩ := hW.alike.2.2 _ _ p2
  have hcomp : s.vm.findClass C = some comp := by rw [hW.alike.findClass]; exact p4
  obtain ⟨kE, hkE, -⟩ := Vm.findClass_spec hcomp
  have hasg : s.vm.assignable cv.cls comp = true := by
    rcases hcs with hcs | hcs
    · obtain ⟨c0, t0, f1, f2, f3⟩ := Cond.castable_spec (va_Nw.use (A := args) rfl (va_Nw.warmC hW (ab_nw hG hcs rfl)))
      cases Option.some.inj (hfc.symm.trans f1)
      cases Option.some.inj (hcomp.symm.trans f2)
      rw [u2]; exact f3
    · have hh : ClassAt s C comp := by
        subst hcs
        cases Option.some.inj (hfc.symm.trans hcomp)
        exact ⟨hfc, kC, hkC, hkind⟩
      have e9 : cv.cls = comp := by
        rw [u2]
        subst hcs
        exact Option.some.inj (hfc.symm.trans hcomp)
      rw [e9]
      exact va_assign hh
  have en := ab_nat (v := v) (by omega)
  have q4' : cell.slots.size = n := q4
  have hjn : v.toNatClampNeg < n := by omega
  refine W.aast hx9 hb q1 q2.1 q3 hk' (by rw [hke]; exact p3) rfl hkE ⟨fun g => ab_in hv h0 h1 q4 (Or.inl g), by rw [q4']; exact hjn⟩ u1 (fun q hh => by rw [u3] at hh; cases hh) (by rw [u2]; exact hkC) hasg rfl rfl hd fun H' e1 e2 e3 => ?_
  refine K p e R s m args below meth c H' _ cells slots mc ms ls _ X hR (hP.set ha hg (c1 := kA g C n (ab_f f i (some v9))) ?_ e2 e3) (ab_locs hl ((hP.2 a _ ha).2 hg)) hL hS
  refine ⟨ab_ast q1 q2 q3 q4 q5 q6 hjn e1 ?_ ?_, _, k, comp, e1, p2, p3, p4⟩
  · show Value.ref v9 = va_rf (ab_f f i (some v9) _)
    rw [ab_f_eq (by omega)]; rfl
  · intro q z hk hz
    show z = va_rf (ab_f f i (some v9) _)
    rw [ab_f_ne (by omega)]; exact hz
end ABH
end
section
/-! rows: what is made, how a method ends, what is thrown -/
section ABN
variable {l : Launch} {E : AbE} {y : AbY} {d kc ks pc : Nat} {L : List (Option AbV)} {S : List AbV} {h : AbH} {Q : AbO → AbH → Prop}
def ab_df (t : FieldType) : AbV := match t with
  | .long => vL 0
  | .array _ => vN
  | .object _ => vN
  | _ => vI 0
def ab_pl (t : FieldType) : Bool := match t with
  | .float => false
  | .double => false
  | _ => true
theorem ab_dfv {t : FieldType} (ht : ab_pl t = true) : ab_v (ab_df t) (defaultValue t) := by
  cases t <;> first | exact ⟨0, rfl, rfl⟩ | exact rfl | (simp [ab_pl] at ht)
theorem ab_vs_map {f : Nat → AbV} {g : Nat → Value} : ∀ (xs : List Nat), (∀ x ∈ xs, ab_v (f x) (g x)) → ab_vs (xs.map f) (xs.map g)
  | [], _ => rfl
  | x :: xs, hx => ⟨g x, xs.map g, rfl, hx x List.mem_cons_self, ab_vs_map xs fun z hz => hx z (List.mem_cons_of_mem _ hz)⟩
theorem ab_room {R : Room} {cells slots mc ms a b : Nat} (hR : ab_R d (kc + a) (ks + b) R cells slots mc ms) : ab_R d kc ks R (cells + a) (slots + b) mc ms := by
  obtain ⟨h1, h2, h3, h4, h5, h6⟩ := hR
  exact ⟨h1, h2, by omega, by omega, by omega, by omega⟩
theorem ab_new {ci N ix : Nat} (g : Nat) {C : String} {T : u_T} {ty : Nat → FieldType} {fs : List AbV} (ok : ab_ok ci C T N ty) (hfs : (List.range N).map (fun k => ab_df (ty k)) = fs) (hpl : (List.range N).all (fun k => ab_pl (ty k)) = true) (hw1 : Cond.classLink y.1.cls ix C ∈ lw_tbl) (hw2 : Cond.instantiable C N ∈ lw_tbl) (hw3 : Cond.initialized C ∈ lw_tbl) (hd : decode y.2.1 pc = .ok (.new ix, 3))
    (K : ∀ a : Nat, h a = none → ab_T l E y d kc ks (pc + 3) L (vR a :: S) (ab_up h a (kO g ci fs)) Q) : ab_T l E y d (kc + 1) (ks + N) pc L S h Q := by
  intro p e R s m args below meth c H locs cells slots mc ms ls st X hR hP hl hL hS
  obtain ⟨hx9, hb, hml, hown, hr, hlk, hnm, htb, hW, ho, hG⟩ := id X
  obtain ⟨hc, hin, hty, hnn⟩ := ok
  have hKn := (ab_K hG hW).1 ci _ hc
  refine W.newcK hx9 hb hown (ab_word hG hw1 rfl hW args) (ab_word hG hw2 rfl hW args) (ab_word hG hw3 rfl hW args) rfl hd (by have := hR.2.2.1; omega) (by have := hR.2.2.2.1; omega) hKn.2.1 rfl fun H1 kC hkC e1 z1 o1 => ?_
  refine K H.size hP.fresh p e R s m args below meth c H1 locs _ _ mc ms ls _ X (ab_room hR) (hP.push (c1 := kO g ci fs) ?_ z1 o1) hl hL ⟨_, _, rfl, rfl, hS⟩
  refine ⟨_, (List.range N).map (fun k => defaultValue (ty k)), hc, by rw [← hfs]; show ((List.range N).map _).length = N; rw [List.length_map, List.length_range], ?_, ?_⟩
  · rw [← hfs]
    exact ab_vs_map _ fun x hx => ab_dfv (List.all_eq_true.mp hpl x hx)
  · refine (u_born ty (ab_lays hG hin hW args) (fun w h => h) hKn hkC e1 hty).to fun j hj => ?_
    have hj : j < N := hj
    simp [vp_V, hj]
theorem ab_aold {U : State} (hW : E.1.WarmedH U.vm) {cell : Cell} {t : FieldType} (hA : U.isArrayOf cell t) : E.1.isArrayOf cell t := State.isArrayOf_alike hW.alike.symm hA
theorem ab_blank {s0 : State} {ty : FieldType} {N : Nat} {P : Nat → Value → Prop} {a : Nat} {H1 : Heap} {cA : ClassId} {x : Value} (e1 : H1[a]? = some (arrV cA N (fun _ => x))) (hA : s0.isArrayOf (arrV cA N (fun _ => x)) ty) (hN : N ≤ 100000) (hx : ∀ j, P j x) : ab_arr s0 ty N P a H1 := by
  refine ⟨_, e1, hA, ?_, arrV_size _ _ _, by omega, fun j hj => ⟨x, arrV_read _ _ hj, hx j⟩⟩
  intro hh
  cases hh
theorem ab_newI {n : Int} (g N : Nat) (hn : n = (N : Int)) (hN : N ≤ 100000) (hd : decode y.2.1 pc = .ok (.newarray .int, 2)) (hw : Cond.arrayClass .int ∈ lw_tbl)
    (K : ∀ a : Nat, h a = none → ab_T l E y d kc ks (pc + 2) L (vR a :: S) (ab_up h a (kI g N (fun _ => 0))) Q) : ab_T l E y d (kc + 1) (ks + N) pc L (vI n :: S) h Q := by
  intro p e R s m args below meth c H locs cells slots mc ms ls st X hR hP hl hL hS
  obtain ⟨hx9, hb, hml, hown, hr, hlk, hnm, htb, hW, ho, hG⟩ := id X
  obtain ⟨_, rst, rfl, ⟨v, rfl, hv⟩, hS⟩ := hS
  have e0 := ab_nat (v := v) (by omega)
  refine W.newaK (atype := .int) (N := N) hx9 hb (ab_word hG hw rfl hW args) rfl hd rfl (fun g => by have := Int32.lt_iff_toInt_lt.mp g; rw [Int32.toInt_zero] at this; omega) (by omega) (by show N * 4 ≤ 536870912; omega) (by have := hR.2.2.1; omega) (by have := hR.2.2.2.1; omega) rfl fun H1 cA e1 z1 o1 hA => ?_
  refine K H.size hP.fresh p e R s m args below meth c H1 locs _ _ mc ms ls _ X (ab_room hR) (hP.push (c1 := kI g N (fun _ => 0)) ?_ z1 o1) hl hL ⟨_, _, rfl, rfl, hS⟩
  exact ab_blank e1 (ab_aold hW (hA N _)) hN (fun _ => ⟨0, rfl, rfl⟩)
theorem ab_newJ {n : Int} (g N : Nat) (hn : n = (N : Int)) (hN : N ≤ 100000) (hd : decode y.2.1 pc = .ok (.newarray .long, 2)) (hw : Cond.arrayClass .long ∈ lw_tbl)
    (K : ∀ a : Nat, h a = none → ab_T l E y d kc ks (pc + 2) L (vR a :: S) (ab_up h a (kJ g N (fun _ => 0))) Q) : ab_T l E y d (kc + 1) (ks + N) pc L (vI n :: S) h Q := by
  intro p e R s m args below meth c H locs cells slots mc ms ls st X hR hP hl hL hS
  obtain ⟨hx9, hb, hml, hown, hr, hlk, hnm, htb, hW, ho, hG⟩ := id X
  obtain ⟨_, rst, rfl, ⟨v, rfl, hv⟩, hS⟩ := hS
  have e0 := ab_nat (v := v) (by omega)
  refine W.newaK (atype := .long) (N := N) hx9 hb (ab_word hG hw rfl hW args) rfl hd rfl (fun g => by have := Int32.lt_iff_toInt_lt.mp g; rw [Int32.toInt_zero] at this; omega) (by omega) (by show N * 8 ≤ 536870912; omega) (by have := hR.2.2.1; omega) (by have := hR.2.2.2.1; omega) rfl fun H1 cA e1 z1 o1 hA => ?_
  refine K H.size hP.fresh p e R s m args below meth c H1 locs _ _ mc ms ls _ X (ab_room hR) (hP.push (c1 := kJ g N (fun _ => 0)) ?_ z1 o1) hl hL ⟨_, _, rfl, rfl, hS⟩
  exact ab_blank e1 (ab_aold hW (hA N _)) hN (fun _ => ⟨0, rfl, rfl⟩)
theorem ab_newZ {n : Int} (g N : Nat) (hn : n = (N : Int)) (hN : N ≤ 100000) (hd : decode y.2.1 pc = .ok (.newarray .boolean, 2)) (hw : Cond.arrayClass .boolean ∈ lw_tbl)
    (K : ∀ a : Nat, h a = none → ab_T l E y d kc ks (pc + 2) L (vR a :: S) (ab_up h a (kZ g N (fun _ => 0))) Q) : ab_T l E y d (kc + 1) (ks + N) pc L (vI n :: S) h Q := by
  intro p e R s m args below meth c H locs cells slots mc ms ls st X hR hP hl hL hS
  obtain ⟨hx9, hb, hml, hown, hr, hlk, hnm, htb, hW, ho, hG⟩ := id X
  obtain ⟨_, rst, rfl, ⟨v, rfl, hv⟩, hS⟩ := hS
  have e0 := ab_nat (v := v) (by omega)
  refine W.newaK (atype := .boolean) (N := N) hx9 hb (ab_word hG hw rfl hW args) rfl hd rfl (fun g => by have := Int32.lt_iff_toInt_lt.mp g; rw [Int32.toInt_zero] at this; omega) (by omega) (by show N * 1 ≤ 536870912; omega) (by have := hR.2.2.1; omega) (by have := hR.2.2.2.1; omega) rfl fun H1 cA e1 z1 o1 hA => ?_
  refine K H.size hP.fresh p e R s m args below meth c H1 locs _ _ mc ms ls _ X (ab_room hR) (hP.push (c1 := kZ g N (fun _ => 0)) ?_ z1 o1) hl hL ⟨_, _, rfl, rfl, hS⟩
  exact ab_blank e1 (ab_aold hW (hA N _)) hN (fun _ => ⟨0, rfl, rfl⟩)
theorem ab_newA {n : Int} {ix : Nat} {C : String} (g N : Nat) (hn : n = (N : Int)) (hN : N ≤ 100000) (hd : decode y.2.1 pc = .ok (.anewarray ix, 3)) (hw1 : Cond.classLink y.1.cls ix C ∈ lw_tbl) (hw2 : Cond.arrayOver (.object C) ∈ lw_tbl) (hg : goodWord (Cond.arrayOver (.object C)) = true)
    (K : ∀ a : Nat, h a = none → ab_T l E y d kc ks (pc + 3) L (vR a :: S) (ab_up h a (kA g C N (fun _ => none))) Q) : ab_T l E y d (kc + 1) (ks + N) pc L (vI n :: S) h Q := by
  intro p e R s m args below meth c H locs cells slots mc ms ls st X hR hP hl hL hS
  obtain ⟨hx9, hb, hml, hown, hr, hlk, hnm, htb, hW, ho, hG⟩ := id X
  obtain ⟨_, rst, rfl, ⟨v, rfl, hv⟩, hS⟩ := hS
  have e0 := ab_nat (v := v) (by omega)
  have eN : v.toNatClampNeg = N := by omega
  refine W.anew hx9 hb hown (ab_word hG hw1 rfl hW args) (ab_word hG hw2 hg hW args) rfl hd rfl (fun g => by have := Int32.lt_iff_toInt_lt.mp g; rw [Int32.toInt_zero] at this; omega) (by rw [eN]; omega) (by have := hR.2.2.1; omega) (by rw [eN]; have := hR.2.2.2.1; omega) fun cA kA9 comp k1 k2 k3 k4 => ?_
  rw [eN]
  obtain ⟨k', hk', hke⟩ := hW.alike.symm.2.2 _ _ k2
  have hcmp : E.1.vm.findClass C = some comp := by rw [← hW.alike.findClass]; exact k4
  refine K H.size hP.fresh p e R s m args below meth c _ locs _ _ mc ms ls _ X (ab_room hR) (hP.push (c1 := kA g C N (fun _ => none)) ?_ (by simp) (fun q hq => by rw [Array.getElem?_push, if_neg (Nat.ne_of_lt hq)])) hl hL ⟨_, _, rfl, rfl, hS⟩
  have e1 : (H.push ({ cls := cA, slots := Array.replicate N .null, vm := .none } : Cell))[H.size]? = some (arrV cA N (fun _ => .null)) := by rw [← arrV_new]; simp
  have hA9 : E.1.isArrayOf (arrV cA N (fun _ => .null)) (.object C) := ⟨fun q hq => (by cases hq), k', hk', comp, by rw [hke]; exact k3⟩
  exact ⟨ab_blank e1 hA9 hN (fun _ => rfl), _, k', comp, e1, hk', by rw [hke]; exact k3, hcmp⟩
/-! ends -/
theorem ab_end {p : Program} {e : Env} {R : Room} {s : State} {m : MethodId} {args : Array Value} {below : List Frame} {meth : Method} {c : Code} {H : Heap} {locs : List Loc} {cells slots mc ms : Nat} {g : JFrame} (hR : ab_R d kc ks R cells slots mc ms) (k : W p l e R s m args below meth c H locs mc ms (MQ below (ab_Q E Q) args s mc ms (ab_A E)) g) : W p l e R s m args below meth c H locs cells slots (vx_MQ below (ab_Q E Q) (ab_QX E Q) args s mc ms (ab_A E)) g :=
  vx_ret (W.widen (by have := hR.2.2.2.2.1; omega) (by have := hR.2.2.2.2.2; omega) k)
theorem ab_ov1 {x : AbV} {w : Value} (hx : ab_v x w) : ab_ov (some x) (some w) := ⟨w, rfl, hx⟩
theorem ab_iret {x : Int} (hd : decode y.2.1 pc = .ok (.ireturn, 1)) (hr9 : y.2.2.1 = some .int) (hq : Q (.inl (some (vI x))) h) : ab_T l E y d kc ks pc L [vI x] h Q := by
  intro p e R s m args below meth c H locs cells slots mc ms ls st X hR hP hl hL hS
  obtain ⟨hx9, hb, hml, hown, hr, hlk, hnm, htb, hW, ho, hG⟩ := id X
  obtain ⟨_, _, rfl, ⟨v, rfl, hv⟩, rfl⟩ := hS
  exact ab_end hR (W.iret hx9 hb (hr.trans hr9) (fun t ht _ => ⟨_, _, h, rfl, ab_ov1 (x := vI x) ⟨v, rfl, hv⟩, by rw [ht]; exact hP, hq⟩) hl hd hlk)
theorem ab_zret {x : Int} (hd : decode y.2.1 pc = .ok (.ireturn, 1)) (hr9 : y.2.2.1 = some .boolean) (hx : x = 0 ∨ x = 1) (hq : Q (.inl (some (vI x))) h) : ab_T l E y d kc ks pc L [vI x] h Q := by
  intro p e R s m args below meth c H locs cells slots mc ms ls st X hR hP hl hL hS
  obtain ⟨hx9, hb, hml, hown, hr, hlk, hnm, htb, hW, ho, hG⟩ := id X
  obtain ⟨_, _, rfl, ⟨v, rfl, hv⟩, rfl⟩ := hS
  exact ab_end hR (W.zret hx9 hb (hr.trans hr9) (ab_fits (t := .boolean) (x := vI x) hx ⟨v, rfl, hv⟩).1 (fun t ht _ => ⟨_, _, h, rfl, ab_ov1 (x := vI x) ⟨v, rfl, hv⟩, by rw [ht]; exact hP, hq⟩) hl hd hlk)
theorem ab_lret {x : Int} (hd : decode y.2.1 pc = .ok (.lreturn, 1)) (hr9 : y.2.2.1 = some .long) (hq : Q (.inl (some (vL x))) h) : ab_T l E y d kc ks pc L [vL x] h Q := by
  intro p e R s m args below meth c H locs cells slots mc ms ls st X hR hP hl hL hS
  obtain ⟨hx9, hb, hml, hown, hr, hlk, hnm, htb, hW, ho, hG⟩ := id X
  obtain ⟨_, _, rfl, ⟨v, rfl, hv⟩, rfl⟩ := hS
  exact ab_end hR (W.lret hx9 hb (hr.trans hr9) (fun t ht _ => ⟨_, _, h, rfl, ab_ov1 (x := vL x) ⟨v, rfl, hv⟩, by rw [ht]; exact hP, hq⟩) hl hd hlk)
theorem ab_vret (hd : decode y.2.1 pc = .ok (.return_, 1)) (hr9 : y.2.2.1 = none) (hq : Q (.inl none) h) : ab_T l E y d kc ks pc L [] h Q := by
  intro p e R s m args below meth c H locs cells slots mc ms ls st X hR hP hl hL hS
  obtain ⟨hx9, hb, hml, hown, hr, hlk, hnm, htb, hW, ho, hG⟩ := id X
  rw [show st = [] from hS]
  exact ab_end hR (W.vret hx9 hb (hr.trans hr9) (fun t ht _ => ⟨_, none, h, rfl, rfl, by rw [ht]; exact hP, hq⟩) hl hd hlk)
theorem ab_aret {r : Option Nat} {rt : FieldType} (hd : decode y.2.1 pc = .ok (.areturn, 1)) (hr9 : y.2.2.1 = some rt) (hrt : (∃ n, rt = .object n) ∨ ∃ t, rt = .array t) (hq : Q (.inl (some (vO r))) h) : ab_T l E y d kc ks pc L [vO r] h Q := by
  intro p e R s m args below meth c H locs cells slots mc ms ls st X hR hP hl hL hS
  obtain ⟨hx9, hb, hml, hown, hr, hlk, hnm, htb, hW, ho, hG⟩ := id X
  obtain ⟨w, _, rfl, hv, rfl⟩ := hS
  have hv' : w = va_rf r := hv
  subst hv'
  exact ab_end hR (W.aret hx9 hb (hr.trans hr9) hrt (by cases r; exact Or.inl rfl; exact Or.inr ⟨_, rfl⟩) (fun t ht _ => ⟨_, some (vO r), h, rfl, ⟨_, rfl, rfl⟩, by rw [ht]; exact hP, hq⟩) hl hd hlk)
/-! throws -/
theorem ab_wordF {w : Cond} (hG : ab_G l E) (hw : w ∈ lw_tbl) (ht : w.onTables = true) (hk : w.keepsFace = true) {U : State} (hW : E.1.WarmedH U.vm) (a : Array Value) : w.before a U = true := va_tabs ht (rfl : (E.1.setVm U.vm).vm = U.vm) (Cond.before_shiftedFace (State.Shifted.of_warmed hW) w hk (hG.2.1 w hw))
theorem ab_str {own tx : String} {k : Nat} {A : Array Value} {U : State} (h1 : (Cond.stringRef own k tx).before A U = true) : ∃ a, vk_R own k tx a U := by
  have h2 : (Cond.stringRef own k tx).before #[] U = true := by
    simp only [Cond.before, Cond.holds, Cond.value] at h1 ⊢
    exact h1
  have h3 := h2
  simp only [Cond.before, Cond.holds, Cond.value, beq_iff_eq, Option.map_eq_some_iff, Bool.and_eq_true] at h3
  obtain ⟨c, hc, -, h4⟩ := h3
  cases hr : U.resolvedAt? own k with
  | none => simp [hr] at h4
  | some z =>
    rw [hr] at h4
    cases z with
    | string a =>
      refine ⟨a, h2, ?_⟩
      simp only [State.resolvedAt?, hc, Option.bind_eq_bind, Option.bind_some, Option.bind_eq_some_iff] at hr
      obtain ⟨kk, hk, hj⟩ := hr
      simp [Term.eval, hc, hk, hj]
    | _ => simp at h4
def ab_ups : List String := ["java/lang/RuntimeException", "java/lang/Exception"]
/-- the words of a throw out of a class: its words stand in the tables, and stay -/
def ab_tw (own : String) (ik ic : Nat) (cls : String) : Prop := Bundle.fit cls = true ∧ (∀ w ∈ Cond.classLink own ik cls :: Cond.initialized cls :: vx_atS own ic cls ab_ups, w ∈ lw_tbl ∧ w.onTables = true ∧ w.keepsFace = true)
theorem ab_frm {s : State} {H : Heap} {locs : List Loc} (ho : ab_old E s.heap) (hP : ab_P E h H) (hl : ∀ z ∈ locs, ab_A E z.base) (hz : s.heap.size ≤ H.size) : va_S (ab_A E) s.heap H locs := ⟨hz, fun q h1 h2 => by
  have h3 : q < E.1.heap.size := Nat.lt_of_not_le h2
  rw [hP.1.2 q h3, ho.2 q h3], hl⟩
theorem ab_throw {ik is ic : Nat} {cls text : String} (tw : ab_tw y.1.cls ik ic cls) (hs : Cond.stringRef y.1.cls is text ∈ lw_tbl) (hd9 : 6 ≤ d) (hS9 : (S.map ab_w).sum ≤ 8) (hh : y.2.2.2 = [])
    (d0 : decode y.2.1 pc = .ok (.new ik, 3)) (d3 : decode y.2.1 (pc + 3) = .ok (.dup, 1)) (d4 : decode y.2.1 (pc + 4) = .ok (.ldc is, 2)) (d6 : decode y.2.1 (pc + 6) = .ok (.invokespecial ic, 3)) (d9 : decode y.2.1 (pc + 9) = .ok (.athrow, 1)) (hq : Q (.inr cls) h) : ab_T l E y d (kc + 1) (ks + 6) pc L S h Q := by
  intro p e R s m args below meth c H locs cells slots mc ms ls st X hR hP hl hL hS T hT XX
  obtain ⟨hx9, hb, hml, hown, hr, hlk, hnm, htb, hW, ho, hG⟩ := id X
  have hz : s.heap.size ≤ H.size := by rw [← hT]; exact XX.same.2.1
  obtain ⟨sa, hsa⟩ := ab_str (hG.2.1 _ hs)
  have hU := (hG.2.2.2.1.moved hW.alike).kept (H1 := s.heap) (fun a h1 _ => ho.2 a h1)
  have hN := (hG.2.2.2.2.1.moved hW.alike).kept (H1 := s.heap) (fun a h1 _ => ho.2 a h1)
  have wd := fun w hw => ab_wordF hG (tw.2 w hw).1 (tw.2 w hw).2.1 (tw.2 w hw).2.2 hW args
  have hst : ∀ {xs : List AbV} {ws : List Value}, ab_vs xs ws → (ws.map fun v => v.category).sum = (xs.map ab_w).sum := by
    intro xs
    induction xs with
    | nil => intro ws hv; rw [show ws = [] from hv]; rfl
    | cons x xs ih =>
      rintro ws ⟨w, r, rfl, hw, hv⟩
      simp only [List.map_cons, List.sum_cons, ab_cat hw, ih hv]
  refine vx_throwS (names := ab_ups) (A := ab_A E) hx9 hb hG.1 hown tw.1 (by decide +kernel) (wd _ List.mem_cons_self) (wd _ (List.mem_cons_of_mem _ List.mem_cons_self)) (vk_R.warm hW hsa) (fun w hw => wd w (List.mem_cons_of_mem _ (List.mem_cons_of_mem _ hw)))
    (fun w hw => by simp only [vx_ot, Bool.or_eq_true]; exact Or.inl (tw.2 w hw).2.1) hU hN (ab_frm ho hP hl hz) (hL.1.trans hml.symm) d0 d3 d4 d6 d9 (by rw [htb, hh]; intro x hx; cases hx)
    (by have := hR.1; show 2 + 3 < R.frames; omega) (by rw [hst hS]; have := hR.2.1; show _ + (13 * (2 + 1) + 43) ≤ R.locals; omega) (by have := hR.2.2.1; omega) (by have := hR.2.2.2.1; omega) hlk ?_ hl (by have := hR.2.2.2.2.1; omega) (by have := hR.2.2.2.2.2; omega) T hT XX
  intro t _ h1 h2
  refine ⟨h, ⟨⟨Nat.le_trans hP.1.1 h1, fun q hq => by rw [h2 q (Nat.lt_of_lt_of_le hq hP.1.1)]; exact hP.1.2 q hq⟩, fun a c9 hc => ⟨(hP.2 a c9 hc).1.kept (h2 a (hP.2 a c9 hc).1.lt), (hP.2 a c9 hc).2⟩⟩, hq⟩
theorem ab_throwW {ik is ic : Nat} {cls text : String} (tw : ab_tw y.1.cls ik ic cls) (hs : Cond.stringRef y.1.cls is text ∈ lw_tbl) (hd9 : 6 ≤ d) (hS9 : (S.map ab_w).sum ≤ 8) (hh : y.2.2.2 = [])
    (d0 : decode y.2.1 pc = .ok (.new ik, 3)) (d3 : decode y.2.1 (pc + 3) = .ok (.dup, 1)) (d4 : decode y.2.1 (pc + 4) = .ok (.ldc_w is, 3)) (d6 : decode y.2.1 (pc + 7) = .ok (.invokespecial ic, 3)) (d9 : decode y.2.1 (pc + 10) = .ok (.athrow, 1)) (hq : Q (.inr cls) h) : ab_T l E y d (kc + 1) (ks + 6) pc L S h Q := by
  intro p e R s m args below meth c H locs cells slots mc ms ls st X hR hP hl hL hS T hT XX
  obtain ⟨hx9, hb, hml, hown, hr, hlk, hnm, htb, hW, ho, hG⟩ := id X
  have hz : s.heap.size ≤ H.size := by rw [← hT]; exact XX.same.2.1
  obtain ⟨sa, hsa⟩ := ab_str (hG.2.1 _ hs)
  have hU := (hG.2.2.2.1.moved hW.alike).kept (H1 := s.heap) (fun a h1 _ => ho.2 a h1)
  have hN := (hG.2.2.2.2.1.moved hW.alike).kept (H1 := s.heap) (fun a h1 _ => ho.2 a h1)
  have wd := fun w hw => ab_wordF hG (tw.2 w hw).1 (tw.2 w hw).2.1 (tw.2 w hw).2.2 hW args
  have hst : ∀ {xs : List AbV} {ws : List Value}, ab_vs xs ws → (ws.map fun v => v.category).sum = (xs.map ab_w).sum := by
    intro xs
    induction xs with
    | nil => intro ws hv; rw [show ws = [] from hv]; rfl
    | cons x xs ih =>
      rintro ws ⟨w, r, rfl, hw, hv⟩
      simp only [List.map_cons, List.sum_cons, ab_cat hw, ih hv]
  refine vx_throwSW (names := ab_ups) (A := ab_A E) hx9 hb hG.1 hown tw.1 (by decide +kernel) (wd _ List.mem_cons_self) (wd _ (List.mem_cons_of_mem _ List.mem_cons_self)) (vk_R.warm hW hsa) (fun w hw => wd w (List.mem_cons_of_mem _ (List.mem_cons_of_mem _ hw)))
    (fun w hw => by simp only [vx_ot, Bool.or_eq_true]; exact Or.inl (tw.2 w hw).2.1) hU hN (ab_frm ho hP hl hz) (hL.1.trans hml.symm) d0 d3 d4 d6 d9 (by rw [htb, hh]; intro x hx; cases hx)
    (by have := hR.1; show 2 + 3 < R.frames; omega) (by rw [hst hS]; have := hR.2.1; show _ + (13 * (2 + 1) + 43) ≤ R.locals; omega) (by have := hR.2.2.1; omega) (by have := hR.2.2.2.1; omega) hlk ?_ hl (by have := hR.2.2.2.2.1; omega) (by have := hR.2.2.2.2.2; omega) T hT XX
  intro t _ h1 h2
  refine ⟨h, ⟨⟨Nat.le_trans hP.1.1 h1, fun q hq => by rw [h2 q (Nat.lt_of_lt_of_le hq hP.1.1)]; exact hP.1.2 q hq⟩, fun a c9 hc => ⟨(hP.2 a c9 hc).1.kept (h2 a (hP.2 a c9 hc).1.lt), (hP.2 a c9 hc).2⟩⟩, hq⟩
end ABN
end
section
/-! calls, and how a walk becomes a contract -/
section ABK
variable {l : Launch} {E : AbE} {y : AbY} {d kc ks pc : Nat} {L : List (Option AbV)} {S : List AbV} {h : AbH} {Q : AbO → AbH → Prop}
theorem ab_blind {as : List AbV} : FrameBlind (ab_Pc E as h) := fun _ _ _ _ hp => hp
theorem ab_met {nL : Nat} {as : List AbV} (hM : ab_M l E y nL d kc ks as h Q) (hx : ∀ X h', ¬ Q (.inr X) h') : Met l y.1 [Cond.code y.1 y.2.1 nL y.2.2.1] (ab_rm d kc ks) (ab_Pc E as h) (ab_Q E Q) kc ks (ab_A E) := by
  intro p e ha hc hk s m args below hf happ hP hK
  obtain ⟨n, o, a1, a2, a3, b3⟩ := hM p e ha hc hk s m args below hf happ hP hK
  refine ⟨n, o, a1, a2, a3, ?_⟩
  rcases b3 with b | ⟨q, c1, X9, ce, LL, ⟨h', c2, c3⟩, c4⟩
  · exact b
  · exact absurd c3 (hx _ _)
def ab_en (as : List AbV) : List (Option AbV) := as.flatMap fun v => if ab_w v = 2 then [some v, none] else [some v]
theorem ab_en_len : ∀ {as : List AbV} {ws : List Value}, ab_vs as ws → (lg_sl ws).length = (ab_en as).length
  | [], ws, hv => by rw [show ws = [] from hv]; rfl
  | x :: xs, ws, ⟨w, r, e, hw, hr⟩ => by
    have ih := ab_en_len hr
    have hc := ab_cat hw
    subst e
    simp only [lg_sl, ab_en, List.flatMap_cons, hc, List.length_append] at ih ⊢
    by_cases g : ab_w x = 2 <;> simp [g, ih]
theorem ab_en_get : ∀ {as : List AbV} {ws : List Value}, ab_vs as ws → ∀ (k : Nat) (x : AbV), (ab_en as)[k]? = some (some x) → ∃ w, (lg_sl ws)[k]? = some (.val w) ∧ ab_v x w
  | [], ws, hv, k, x, hk => by simp [ab_en] at hk
  | v :: xs, ws, ⟨w, r, e, hw, hr⟩, k, x, hk => by
    have ih := ab_en_get hr
    have hc := ab_cat hw
    subst e
    simp only [lg_sl, ab_en, List.flatMap_cons, hc] at ih hk ⊢
    by_cases g : ab_w v = 2
    · simp only [g, if_true, List.cons_append, List.nil_append] at hk ⊢
      match k, hk with
      | 0, hk => cases hk; exact ⟨w, rfl, hw⟩
      | 1, hk => cases hk
      | k + 2, hk => exact ih k x hk
    · simp only [g, if_false, List.cons_append, List.nil_append] at hk ⊢
      match k, hk with
      | 0, hk => cases hk; exact ⟨w, rfl, hw⟩
      | k + 1, hk => exact ih k x hk
theorem ab_entry {as : List AbV} {ws : List Value} {n : Nat} (hv : ab_vs as ws) (hn : (ab_en as).length ≤ n) : ab_l (ab_en as ++ List.replicate (n - (ab_en as).length) none) ((lg_sl ws ++ List.replicate (n - (lg_sl ws).length) Slot.unset).toArray) := by
  have hl := ab_en_len hv
  have he := lv_entry ws (n := n) (by rw [hl]; exact hn)
  refine ⟨by simp [hl], he.2.1, fun k x hk => ?_⟩
  by_cases g : k < (ab_en as).length
  · rw [List.getElem?_append_left g] at hk
    obtain ⟨w, h1, h2⟩ := ab_en_get hv k x hk
    refine ⟨w, ?_, h2⟩
    rw [List.getElem?_toArray, List.getElem?_append_left (by rw [hl]; exact g)]
    exact h1
  · rw [List.getElem?_append_right (by omega), List.getElem?_replicate] at hk
    split at hk <;> cases hk
theorem ab_M.of {nL : Nat} {as : List AbV} {L0 : List (Option AbV)} (hG : ab_G l E) (hpn : plainName y.1.cls = true) (hh : y.2.2.2 = []) (hn : (ab_en as).length ≤ nL) (hL0 : ab_en as ++ List.replicate (nL - (ab_en as).length) none = L0) (k : ab_T l E y d kc ks 0 L0 [] h Q) : ab_M l E y nL d kc ks as h Q := by
  refine vx_ofW (ws' := []) hpn rfl ?_
  intro p e s m args below meth c s1 B hml ht hP
  obtain ⟨⟨ws, rfl, hv⟩, hPic, hW⟩ := hP
  have htb : c.exceptionTable.toList = [] := by
    cases hx : c.exceptionTable.toList with
    | nil => rfl
    | cons a b => exact (ht a (by rw [hx]; exact List.mem_cons_self)).elim
  have hlen : L0.length = nL := by rw [← hL0, List.length_append, List.length_replicate]; omega
  rw [lg_entry_eq]
  refine k p e (ab_rm d kc ks) s m ws.toArray below meth c s.heap [] 0 0 kc ks _ [] ⟨B.exec, B.bytes, by rw [hlen]; exact hml, findClass_of_methodNamed B.named, B.returns, B.notSynchronized, (name_of_methodNamed B.named B.method).1, by rw [htb, hh]; rfl, hW, hPic.1, hG⟩ ⟨Nat.le_refl _, Nat.le_refl _, by simp [ab_rm], by simp [ab_rm], by simp, by simp⟩ hPic (fun z hz => by cases hz) (by rw [← hL0]; exact ab_entry hv hn) rfl
/-- a method with a table of its own, that lets nothing out -/
def ab_MW (l : Launch) (E : AbE) (y : AbY) (nL d kc ks : Nat) (as : List AbV) (h : AbH) (Q : AbO → AbH → Prop) : Prop :=
  Met l y.1 [Cond.codeWith y.1 y.2.1 nL y.2.2.1 y.2.2.2] (ab_rm d kc ks) (ab_Pc E as h) (ab_Q E Q) kc ks (ab_A E)
theorem ab_MW.of {nL : Nat} {as : List AbV} {L0 : List (Option AbV)} (hG : ab_G l E) (hpn : plainName y.1.cls = true) (hn : (ab_en as).length ≤ nL) (hL0 : ab_en as ++ List.replicate (nL - (ab_en as).length) none = L0) (hx : ∀ X h', ¬ Q (.inr X) h') (k : ab_T l E y d kc ks 0 L0 [] h Q) : ab_MW l E y nL d kc ks as h Q := by
  refine va_MetW (ws' := []) (hh := y.2.2.2) hpn rfl ?_
  intro p e s m args below meth c s1 B hml hP
  obtain ⟨⟨ws, rfl, hv⟩, hPic, hW⟩ := hP
  have htb := vx_table (x := y.1) B (atoms_spec (ws := [Cond.codeWith y.1 y.2.1 nL y.2.2.1 y.2.2.2]) B.pre _ List.mem_cons_self)
  have hlen : L0.length = nL := by rw [← hL0, List.length_append, List.length_replicate]; omega
  rw [lg_entry_eq]
  intro T hT XX
  obtain ⟨t, a1, o, b1, b2, b3⟩ := k p e (ab_rm d kc ks) s m ws.toArray below meth c s.heap [] 0 0 kc ks _ [] ⟨B.exec, B.bytes, by rw [hlen]; exact hml, findClass_of_methodNamed B.named, B.returns, B.notSynchronized, (name_of_methodNamed B.named B.method).1, htb, hW, hPic.1, hG⟩ ⟨Nat.le_refl _, Nat.le_refl _, by simp [ab_rm], by simp [ab_rm], by simp, by simp⟩ hPic (fun z hz => by cases hz) (by rw [← hL0]; exact ab_entry hv hn) rfl T hT XX
  rcases b3 with b | ⟨q, c1, X9, ce, LL, ⟨h', c2, c3⟩, c4⟩
  · exact ⟨t, a1, o, b1, b2, b⟩
  · exact absurd c3 (hx _ _)
/-! the words of a call -/
def ab_wB (own : String) (ix : Nat) (y2 : AbY) (n2 k : Nat) : Prop := Cond.methodLink own ix y2.1 ∈ lw_tbl ∧ Cond.initialized y2.1.cls ∈ lw_tbl ∧ Cond.code y2.1 y2.2.1 n2 y2.2.2.1 ∈ lw_tbl ∧ (y2.1.cls ≠ "java/lang/invoke/MethodHandle" ∧ y2.1.cls ≠ "java/lang/invoke/VarHandle") ∧ (parseMethodDescriptor y2.1.desc).map (fun d => d.parameters.length) = some k
theorem ab_sum : ∀ {xs : List AbV} {ws : List Value}, ab_vs xs ws → (ws.map fun v => v.category).sum = (xs.map ab_w).sum
  | [], ws, hv => by rw [show ws = [] from hv]; rfl
  | x :: xs, ws, ⟨w, r, e, hw, hv⟩ => by
    subst e
    simp only [List.map_cons, List.sum_cons, ab_cat hw, ab_sum hv]
theorem ab_cb {own : String} {ix n2 k d2 kc2 ks2 : Nat} {y2 : AbY} {R : Room} {s : State} {args : Array Value} (w : ab_wB own ix y2 n2 k) (hG : ab_G l E) (hW : E.1.WarmedH s.vm) (hd2 : d2 + 1 ≤ d) (hn2 : n2 ≤ 45) (hR : d ≤ R.frames ∧ 64 * d ≤ R.locals) : CallB R s args own ix y2.1 y2.2.1 n2 y2.2.2.1 [Cond.code y2.1 y2.2.1 n2 y2.2.2.1] (ab_rm d2 kc2 ks2) kc2 ks2 k := by
  obtain ⟨w1, w2, w3, w4, w5⟩ := w
  refine ⟨rfl, rfl, by show d2 + 1 ≤ R.frames; omega, by show 8 + (n2 + 11) + 64 * d2 ≤ R.locals; omega, ?_, List.mem_cons_self, ab_word hG w3 rfl hW args, ab_word hG w2 rfl hW args, w4, fun sig hs => ?_, ab_word hG w1 rfl hW args⟩
  · intro w hw a' U hU
    rw [List.mem_singleton.mp hw]
    exact ab_word hG w3 rfl (State.WarmedH.trans hW hU) a'
  · rw [hs] at w5
    exact (Option.some.inj w5).symm
/-- what is owed behind a call: where it comes back, and where it throws -/
theorem ab_back {p : Program} {e : Env} {R : Room} {s : State} {m : MethodId} {args : Array Value} {below : List Frame} {meth : Method} {c : Code} {H : Heap} {locs : List Loc} {cells slots mc ms kc2 ks2 : Nat} {ls : Array Slot} {st rest : List Value} {a9 : Array Value} {Q2 : AbO → AbH → Prop}
    (X : ab_X l E y L.length p s m meth c) (hR : ab_R d (kc + kc2) (ks + ks2) R cells slots mc ms) (hl : ∀ z ∈ locs, ab_A E z.base) (hL : ab_l L ls) (hS : ab_vs S rest)
    (hr : vx_Run p l e R s m args below meth c H locs cells slots kc2 ks2 (F0 m pc ls st) rest (ab_Q E Q2 a9) (ab_QX E Q2) (ab_A E))
    (K : ∀ r h', Q2 (.inl r) h' → ab_T l E y d kc ks (pc + 3) L (r.toList ++ S) h' Q)
    (KX : ∀ (Xn : String) (h' : AbH) (ce : Cell) (q : Addr) (H1 : Heap) (locs1 : List Loc), Q2 (.inr Xn) h' → ab_P E h' H1 → (∀ z ∈ locs1, ab_A E z.base) → H1[q]? = some ce → ce.vm = .none → s.vm.findClass Xn = some ce.cls → vx_W p l e R s m args below meth c H1 locs1 (cells + kc2) (slots + ks2) (vx_MQ below (ab_Q E Q) (ab_QX E Q) args s mc ms (ab_A E)) (F0 m pc ls rest) q) :
    W p l e R s m args below meth c H locs cells slots (vx_MQ below (ab_Q E Q) (ab_QX E Q) args s mc ms (ab_A E)) (F0 m pc ls st) := by
  intro T hT XX
  have hl2 : ∀ {L' : List Loc}, (∀ q ∈ L', ab_A E q.base) → ∀ z ∈ locs ++ L', ab_A E z.base := fun hL' z hz => (List.mem_append.mp hz).elim (hl z) (hL' z)
  rcases hr T hT XX with ⟨v, st0, t, T', L', h0, X', hL', e1, e2, ⟨v', r, h', hv, hov, hP', hq⟩, stp⟩ | ⟨q, st0, t, T', L', Xn, ce, h0, X', hL', e1, e2, ⟨h', hP', hq⟩, hce, hcv, hcl, stp⟩
  · cases hv
    obtain ⟨t2, a1, b1⟩ := K r h' hq p e R s m args below meth c T'.heap (locs ++ L') _ _ mc ms ls (v.toList ++ rest) X (ab_room hR) (by rw [e1]; exact hP') (hl2 hL') hL (by
      cases r with
      | none => rw [show v = none from hov]; exact hS
      | some x => obtain ⟨w, rfl, hw⟩ := hov; exact ⟨w, rest, rfl, hw, hS⟩) T' rfl X'
    exact ⟨t2, stp t2 a1, b1⟩
  · obtain ⟨t2, a1, b1⟩ := KX Xn h' ce q T'.heap (locs ++ L') hq (by rw [e1]; exact hP') (hl2 hL') (by rw [e1]; exact hce) hcv hcl T' rfl X'
    exact ⟨t2, stp.trans a1, b1⟩
theorem ab_out {p : Program} {e : Env} {R : Room} {s : State} {m : MethodId} {args : Array Value} {below : List Frame} {meth : Method} {c : Code} {cells slots mc ms kc2 ks2 : Nat} {ls : Array Slot} {rest : List Value}
    (X : ab_X l E y L.length p s m meth c) (hR : ab_R d (kc + kc2) (ks + ks2) R cells slots mc ms) (hh : y.2.2.2 = []) {Q2 : AbO → AbH → Prop} (hq : ∀ Xn h', Q2 (.inr Xn) h' → Q (.inr Xn) h') :
    ∀ (Xn : String) (h' : AbH) (ce : Cell) (q : Addr) (H1 : Heap) (locs1 : List Loc), Q2 (.inr Xn) h' → ab_P E h' H1 → (∀ z ∈ locs1, ab_A E z.base) → H1[q]? = some ce → ce.vm = .none → s.vm.findClass Xn = some ce.cls → vx_W p l e R s m args below meth c H1 locs1 (cells + kc2) (slots + ks2) (vx_MQ below (ab_Q E Q) (ab_QX E Q) args s mc ms (ab_A E)) (F0 m pc ls rest) q := by
  intro Xn h' ce q H1 locs1 h2 hP hl hce hcv hcl
  obtain ⟨hx9, hb, hml, hown, hr, hlk, hnm, htb, hW, ho, hG⟩ := id X
  refine vx_out (by rw [htb, hh]; intro x hx; cases hx) hlk hce hcv hcl (fun t ht _ => ⟨h', by rw [ht]; exact hP, hq _ _ h2⟩) hl (by have := hR.2.2.2.2.1; omega) (by have := hR.2.2.2.2.2; omega)
theorem ab_recv {ci g a : Nat} {r : vw_C} {fs : List AbV} {H : Heap} {s : State} (hG : ab_G l E) (hW : E.1.WarmedH s.vm) (hP : ab_P E h H) (ha : h a = some (kO g ci fs)) (hc : ab_cl[ci]? = some r) : ∃ cell : Cell, H[a]? = some cell ∧ cell.vm.isStatics = false ∧ s.vm.findClass r.1 = some cell.cls := by
  obtain ⟨r9, ws, t1, t2, t3, cv, u1, u2, u3, -⟩ := (hP.2 a _ ha).1
  cases Option.some.inj (t1.symm.trans hc)
  exact ⟨cv, u1, by rw [u3]; rfl, by rw [u2]; exact ((ab_K hG hW).1 ci _ hc).2.1⟩
theorem ab_callV {ci g a ix n2 d2 kc2 ks2 : Nat} {r : vw_C} {fs : List AbV} {y2 : AbY} {as : List AbV} {S0 : List AbV} {Q2 : AbO → AbH → Prop} (hM : ab_M l E y2 n2 d2 kc2 ks2 (vR a :: as) h Q2) (ha : h a = some (kO g ci fs)) (hc : ab_cl[ci]? = some r) (w : ab_wB y.1.cls ix y2 n2 as.length) (w1 : Cond.instanceMethod y2.1 ∈ lw_tbl) (w2 : Cond.selects r.1 y2.1 y2.1 ∈ lw_tbl) (hS0 : S0 = as.reverse ++ vR a :: S) (hd2 : d2 + 1 ≤ d) (hn2 : n2 ≤ 45) (hS9 : (S.map ab_w).sum ≤ 8) (hh : y.2.2.2 = []) (hd : decode y.2.1 pc = .ok (.invokevirtual ix, 3))
    (KX : ∀ Xn h', Q2 (.inr Xn) h' → Q (.inr Xn) h') (K : ∀ r h', Q2 (.inl r) h' → ab_T l E y d kc ks (pc + 3) L (r.toList ++ S) h' Q) : ab_T l E y d (kc + kc2) (ks + ks2) pc L S0 h Q := by
  intro p e R s m args below meth c H locs cells slots mc ms ls st X hR hP hl hL hS
  subst hS0
  obtain ⟨hx9, hb, hml, hown, hr, hlk, hnm, htb, hW, ho, hG⟩ := id X
  obtain ⟨us, vs, rfl, hu, w9, rest, rfl, hw9, hS2⟩ := ab_vs_split hS
  cases (show w9 = .ref a from hw9)
  have hAs : ab_vs as us.reverse := by have := ab_vs_rev hu; rwa [List.reverse_reverse] at this
  refine ab_back X hR hl hL hS2 (vx_runV (nL := L.length) (Ts := []) (As := us.reverse) (b := a) ⟨hx9, hb, hml, hown, fun w hw => by cases hw⟩ hM ⟨ab_cb w hG hW hd2 hn2 ⟨hR.1, hR.2.1⟩, ab_word hG w1 rfl hW args, ab_word hG w2 rfl hW args⟩ ⟨ab_blind, ab_recv hG hW hP ha hc, fun U hU hWU => ⟨⟨_, rfl, _, _, rfl, rfl, hAs⟩, by rw [hU]; exact hP, State.WarmedH.trans hW hWU⟩⟩ rfl (by rw [ab_vs_len hAs]) hL.1 (by rw [List.reverse_reverse]) (by rw [ab_sum hS2]; show 2 * 0 + _ ≤ 8; omega) hd ⟨by have := hR.2.2.1; omega, by have := hR.2.2.2.1; omega⟩) K (ab_out X hR hh KX)
theorem ab_callS {ix n2 d2 kc2 ks2 : Nat} {y2 : AbY} {as : List AbV} {S0 : List AbV} {Q2 : AbO → AbH → Prop} (hM : ab_M l E y2 n2 d2 kc2 ks2 as h Q2) (w : ab_wB y.1.cls ix y2 n2 as.length) (w1 : Cond.static y2.1 ∈ lw_tbl) (hS0 : S0 = as.reverse ++ S) (hd2 : d2 + 1 ≤ d) (hn2 : n2 ≤ 45) (hS9 : (S.map ab_w).sum ≤ 8) (hh : y.2.2.2 = []) (hd : decode y.2.1 pc = .ok (.invokestatic ix, 3))
    (KX : ∀ Xn h', Q2 (.inr Xn) h' → Q (.inr Xn) h') (K : ∀ r h', Q2 (.inl r) h' → ab_T l E y d kc ks (pc + 3) L (r.toList ++ S) h' Q) : ab_T l E y d (kc + kc2) (ks + ks2) pc L S0 h Q := by
  intro p e R s m args below meth c H locs cells slots mc ms ls st X hR hP hl hL hS
  subst hS0
  obtain ⟨hx9, hb, hml, hown, hr, hlk, hnm, htb, hW, ho, hG⟩ := id X
  obtain ⟨us, rest, rfl, hu, hS⟩ := ab_vs_split hS
  have hAs : ab_vs as us.reverse := by have := ab_vs_rev hu; rwa [List.reverse_reverse] at this
  refine ab_back X hR hl hL hS (vx_runS (nL := L.length) (Ts := []) (As := us.reverse) ⟨hx9, hb, hml, hown, fun w hw => by cases hw⟩ hM ⟨ab_cb w hG hW hd2 hn2 ⟨hR.1, hR.2.1⟩, ab_word hG w1 rfl hW args⟩ ⟨ab_blind, fun U hU hWU => ⟨⟨_, rfl, hAs⟩, by rw [hU]; exact hP, State.WarmedH.trans hW hWU⟩⟩ rfl (by rw [ab_vs_len hAs]) hL.1 (by rw [List.reverse_reverse]) (by rw [ab_sum hS]; show 2 * 0 + _ ≤ 8; omega) hd ⟨by have := hR.2.2.1; omega, by have := hR.2.2.2.1; omega⟩) K (ab_out X hR hh KX)
/-- a call that only comes back, as a call that may throw -/
theorem ab_run {p : Program} {e : Env} {R : Room} {s : State} {m : MethodId} {args : Array Value} {below : List Frame} {meth : Method} {c : Code} {H : Heap} {locs : List Loc} {cells slots mc ms : Nat} {g : JFrame} {rest : List Value} {Qa : State → Outcome → State → Prop} {XC : String → State → State → Prop} {free : Addr → Prop} (hr : va_Run p l e R s m args below meth c H locs cells slots mc ms g rest Qa free) : vx_Run p l e R s m args below meth c H locs cells slots mc ms g rest Qa XC free := fun T hT X => Or.inl (hr T hT X)
theorem ab_callI {a ix n2 d2 kc2 ks2 : Nat} {y2 : AbY} {as : List AbV} {S0 : List AbV} {Q2 : AbO → AbH → Prop} (hM : ab_M l E y2 n2 d2 kc2 ks2 (vR a :: as) h Q2) (hx : ∀ Xn h', ¬ Q2 (.inr Xn) h') (w : ab_wB y.1.cls ix y2 n2 as.length) (w1 : Cond.instanceMethod y2.1 ∈ lw_tbl) (hi : y2.1.name = "<init>" ∧ y2.2.2.1 = none) (hS0 : S0 = as.reverse ++ vR a :: S) (hd2 : d2 + 1 ≤ d) (hn2 : n2 ≤ 45) (hS9 : (S.map ab_w).sum ≤ 8) (hd : decode y.2.1 pc = .ok (.invokespecial ix, 3))
    (K : ∀ r h', Q2 (.inl r) h' → ab_T l E y d kc ks (pc + 3) L (r.toList ++ S) h' Q) : ab_T l E y d (kc + kc2) (ks + ks2) pc L S0 h Q := by
  intro p e R s m args below meth c H locs cells slots mc ms ls st X hR hP hl hL hS
  subst hS0
  obtain ⟨hx9, hb, hml, hown, hr, hlk, hnm, htb, hW, ho, hG⟩ := id X
  obtain ⟨us, vs, rfl, hu, w9, rest, rfl, hw9, hS2⟩ := ab_vs_split hS
  cases (show w9 = .ref a from hw9)
  have hAs : ab_vs as us.reverse := by have := ab_vs_rev hu; rwa [List.reverse_reverse] at this
  have cb := ab_cb (args := args) (d := d) (R := R) (d2 := d2) (kc2 := kc2) (ks2 := ks2) w hG hW hd2 hn2 ⟨hR.1, hR.2.1⟩
  have mt := ab_met hM hx
  rw [hi.2] at cb mt
  refine ab_back (Q2 := Q2) X hR hl hL hS2 (ab_run (va_runI (nL := L.length) (Ts := []) (As := us.reverse) (b := a) ⟨hx9, hb, hml, hown, fun w hw => by cases hw⟩ mt ⟨cb, hi.1, ab_word hG w1 rfl hW args⟩ ⟨ab_blind, fun U hU hWU => ⟨⟨_, rfl, _, _, rfl, rfl, hAs⟩, by rw [hU]; exact hP, State.WarmedH.trans hW hWU⟩⟩ rfl (by rw [ab_vs_len hAs]) hL.1 (by rw [List.reverse_reverse]) (by rw [ab_sum hS2]; show 2 * 0 + _ ≤ 8; omega) hd ⟨by have := hR.2.2.1; omega, by have := hR.2.2.2.1; omega⟩)) K (fun Xn h' ce q H1 locs1 h2 => absurd h2 (hx Xn h'))
/-! nest mates -/
def ab_wN (own : String) (ix : Nat) (y2 : AbY) (host : String) (n2 k : Nat) : Prop := Cond.methodLinkNest own ix y2.1 host ∈ lw_tbl ∧ Cond.initialized y2.1.cls ∈ lw_tbl ∧ Cond.code y2.1 y2.2.1 n2 y2.2.2.1 ∈ lw_tbl ∧ (y2.1.cls ≠ "java/lang/invoke/MethodHandle" ∧ y2.1.cls ≠ "java/lang/invoke/VarHandle") ∧ (parseMethodDescriptor y2.1.desc).map (fun d => d.parameters.length) = some k
theorem ab_cn {own host : String} {ix n2 k d2 kc2 ks2 : Nat} {y2 : AbY} {R : Room} {s : State} {args : Array Value} (w : ab_wN own ix y2 host n2 k) (hG : ab_G l E) (hW : E.1.WarmedH s.vm) (hd2 : d2 + 1 ≤ d) (hn2 : n2 ≤ 45) (hR : d ≤ R.frames ∧ 64 * d ≤ R.locals) : va_CN R s args own ix y2.1 host y2.2.1 n2 y2.2.2.1 [Cond.code y2.1 y2.2.1 n2 y2.2.2.1] (ab_rm d2 kc2 ks2) kc2 ks2 k := by
  obtain ⟨w1, w2, w3, w4, w5⟩ := w
  refine ⟨⟨rfl, rfl, by show d2 + 1 ≤ R.frames; omega, by show 8 + (n2 + 11) + 64 * d2 ≤ R.locals; omega, ?_, List.mem_cons_self⟩, ab_word hG w3 rfl hW args, ab_word hG w2 rfl hW args, w4, fun sig hs => ?_, va_Nw.use rfl (va_Nw.warmM hW (ab_nw hG w1 rfl))⟩
  · intro w hw a' U hU
    rw [List.mem_singleton.mp hw]
    exact ab_word hG w3 rfl (State.WarmedH.trans hW hU) a'
  · rw [hs] at w5
    exact (Option.some.inj w5).symm
theorem ab_callIN {a ix n2 d2 kc2 ks2 : Nat} {host : String} {y2 : AbY} {as : List AbV} {S0 : List AbV} {Q2 : AbO → AbH → Prop} (hM : ab_M l E y2 n2 d2 kc2 ks2 (vR a :: as) h Q2) (hx : ∀ Xn h', ¬ Q2 (.inr Xn) h') (w : ab_wN y.1.cls ix y2 host n2 as.length) (w1 : Cond.instanceMethod y2.1 ∈ lw_tbl) (hi : y2.1.name = "<init>" ∧ y2.2.2.1 = none) (hS0 : S0 = as.reverse ++ vR a :: S) (hd2 : d2 + 1 ≤ d) (hn2 : n2 ≤ 45) (hS9 : (S.map ab_w).sum ≤ 8) (hd : decode y.2.1 pc = .ok (.invokespecial ix, 3))
    (K : ∀ r h', Q2 (.inl r) h' → ab_T l E y d kc ks (pc + 3) L (r.toList ++ S) h' Q) : ab_T l E y d (kc + kc2) (ks + ks2) pc L S0 h Q := by
  intro p e R s m args below meth c H locs cells slots mc ms ls st X hR hP hl hL hS
  subst hS0
  obtain ⟨hx9, hb, hml, hown, hr, hlk, hnm, htb, hW, ho, hG⟩ := id X
  obtain ⟨us, vs, rfl, hu, w9, rest, rfl, hw9, hS2⟩ := ab_vs_split hS
  cases (show w9 = .ref a from hw9)
  have hAs : ab_vs as us.reverse := by have := ab_vs_rev hu; rwa [List.reverse_reverse] at this
  have cb := ab_cn (args := args) (d := d) (R := R) (d2 := d2) (kc2 := kc2) (ks2 := ks2) w hG hW hd2 hn2 ⟨hR.1, hR.2.1⟩
  have mt := ab_met hM hx
  rw [hi.2] at cb mt
  refine ab_back (Q2 := Q2) X hR hl hL hS2 (ab_run (va_runIN (nL := L.length) (Ts := []) (As := us.reverse) (b := a) ⟨hx9, hb, hml, hown, fun w hw => by cases hw⟩ mt ⟨cb, hi.1, ab_word hG w1 rfl hW args⟩ ⟨ab_blind, fun U hU hWU => ⟨⟨_, rfl, _, _, rfl, rfl, hAs⟩, by rw [hU]; exact hP, State.WarmedH.trans hW hWU⟩⟩ rfl (by rw [ab_vs_len hAs]) hL.1 (by rw [List.reverse_reverse]) (by rw [ab_sum hS2]; show 2 * 0 + _ ≤ 8; omega) hd ⟨by have := hR.2.2.1; omega, by have := hR.2.2.2.1; omega⟩)) K (fun Xn h' ce q H1 locs1 h2 => absurd h2 (hx Xn h'))
theorem ab_callSN {ix n2 d2 kc2 ks2 : Nat} {host : String} {y2 : AbY} {as : List AbV} {S0 : List AbV} {Q2 : AbO → AbH → Prop} (hM : ab_M l E y2 n2 d2 kc2 ks2 as h Q2) (hx : ∀ Xn h', ¬ Q2 (.inr Xn) h') (w : ab_wN y.1.cls ix y2 host n2 as.length) (w1 : Cond.static y2.1 ∈ lw_tbl) (hS0 : S0 = as.reverse ++ S) (hd2 : d2 + 1 ≤ d) (hn2 : n2 ≤ 45) (hS9 : (S.map ab_w).sum ≤ 8) (hd : decode y.2.1 pc = .ok (.invokestatic ix, 3))
    (K : ∀ r h', Q2 (.inl r) h' → ab_T l E y d kc ks (pc + 3) L (r.toList ++ S) h' Q) : ab_T l E y d (kc + kc2) (ks + ks2) pc L S0 h Q := by
  intro p e R s m args below meth c H locs cells slots mc ms ls st X hR hP hl hL hS
  subst hS0
  obtain ⟨hx9, hb, hml, hown, hr, hlk, hnm, htb, hW, ho, hG⟩ := id X
  obtain ⟨us, rest, rfl, hu, hS⟩ := ab_vs_split hS
  have hAs : ab_vs as us.reverse := by have := ab_vs_rev hu; rwa [List.reverse_reverse] at this
  have cb := ab_cn (args := args) (d := d) (R := R) (d2 := d2) (kc2 := kc2) (ks2 := ks2) w hG hW hd2 hn2 ⟨hR.1, hR.2.1⟩
  refine ab_back (Q2 := Q2) X hR hl hL hS (ab_run (va_runSN (nL := L.length) (Ts := []) (As := us.reverse) ⟨hx9, hb, hml, hown, fun w hw => by cases hw⟩ (ab_met hM hx) ⟨cb, ab_word hG w1 rfl hW args, trivial⟩ ⟨ab_blind, fun U hU hWU => ⟨⟨_, rfl, hAs⟩, by rw [hU]; exact hP, State.WarmedH.trans hW hWU⟩⟩ rfl (by rw [ab_vs_len hAs]) hL.1 (by rw [List.reverse_reverse]) (by rw [ab_sum hS]; show 2 * 0 + _ ≤ 8; omega) hd ⟨by have := hR.2.2.1; omega, by have := hR.2.2.2.1; omega⟩)) K (fun Xn h' ce q H1 locs1 h2 => absurd h2 (hx Xn h'))
/-! Object's own beginning -/
theorem ab_obj {a ix : Nat} (hw : Cond.methodLink y.1.cls ix Lib.objectInit ∈ lw_tbl) (hw2 : Cond.instanceMethod Lib.objectInit ∈ lw_tbl) (hw3 : Cond.code Lib.objectInit ⟨#[0xb1]⟩ 1 none ∈ lw_tbl) (hd1 : 1 ≤ d) (hS9 : (S.map ab_w).sum ≤ 8) (hd : decode y.2.1 pc = .ok (.invokespecial ix, 3)) (K : ab_T l E y d kc ks (pc + 3) L S h Q) : ab_T l E y d kc ks pc L (vR a :: S) h Q := by
  intro p e R s m args below meth c H locs cells slots mc ms ls st X hR hP hl hL hS
  obtain ⟨hx9, hb, hml, hown, hr, hlk, hnm, htb, hW, ho, hG⟩ := id X
  obtain ⟨w9, rest, rfl, hw9, hS⟩ := hS
  cases (show w9 = .ref a from hw9)
  exact W.objInit hx9 hb hown (ab_word hG hw rfl hW args) (ab_word hG hw2 rfl hW args) (ab_word hG hw3 rfl hW args) rfl (hL.1.trans hml.symm) rfl hd (by have := hR.1; omega) (by rw [ab_sum hS]; have := hR.2.1; show 2 * 0 + _ + 12 ≤ R.locals; omega) (K p e R s m args below meth c H locs cells slots mc ms ls _ X hR hP hl hL hS)
end ABK
end
section
/-! the rest: an abstract method's call, kinds, the static row, copying, catching -/
section ABR
variable {l : Launch} {E : AbE} {y : AbY} {d kc ks pc : Nat} {L : List (Option AbV)} {S : List AbV} {h : AbH} {Q : AbO → AbH → Prop}
/-- a call by the name x of an abstract method, on an object whose kind has the method y2 for it; it only comes back -/
theorem ab_callU {ci g a ix n2 d2 kc2 ks2 : Nat} {r : vw_C} {x : MethodName} {fs : List AbV} {y2 : AbY} {as : List AbV} {S0 : List AbV} {Q2 : AbO → AbH → Prop} (hM : ab_M l E y2 n2 d2 kc2 ks2 (vR a :: as) h Q2) (hx : ∀ Xn h', ¬ Q2 (.inr Xn) h') (ha : h a = some (kO g ci fs)) (hc : ab_cl[ci]? = some r)
    (w0 : Cond.methodLink y.1.cls ix x ∈ lw_tbl ∧ Cond.sameMethod x.cls x.cls x.name x.desc ∈ lw_tbl ∧ Cond.declares x ∈ lw_tbl ∧ (x.cls ≠ "java/lang/invoke/MethodHandle" ∧ x.cls ≠ "java/lang/invoke/VarHandle") ∧ (parseMethodDescriptor x.desc).map (fun d => d.parameters.length) = some as.length)
    (w1 : Cond.selects r.1 x y2.1 ∈ lw_tbl ∧ Cond.instanceMethod y2.1 ∈ lw_tbl ∧ Cond.initialized y2.1.cls ∈ lw_tbl ∧ Cond.code y2.1 y2.2.1 n2 y2.2.2.1 ∈ lw_tbl) (hS0 : S0 = as.reverse ++ vR a :: S) (hd2 : d2 + 1 ≤ d) (hn2 : n2 ≤ 45) (hS9 : (S.map ab_w).sum ≤ 8) (hd : decode y.2.1 pc = .ok (.invokevirtual ix, 3))
    (K : ∀ r h', Q2 (.inl r) h' → ab_T l E y d kc ks (pc + 3) L (r.toList ++ S) h' Q) : ab_T l E y d (kc + kc2) (ks + ks2) pc L S0 h Q := by
  intro p e R s m args below meth c H locs cells slots mc ms ls st X hR hP hl hL hS
  subst hS0
  obtain ⟨hx9, hb, hml, hown, hr, hlk, hnm, htb, hW, ho, hG⟩ := id X
  obtain ⟨us, vs, rfl, hu, w9, rest, rfl, hw9, hS2⟩ := ab_vs_split hS
  cases (show w9 = .ref a from hw9)
  have hAs : ab_vs as us.reverse := by have := ab_vs_rev hu; rwa [List.reverse_reverse] at this
  obtain ⟨v1, v2, v3, v4, v5⟩ := w0
  obtain ⟨u1, u2, u3, u4⟩ := w1
  have cb : va_CU R s args y.1.cls r.1 x.cls ix x y2.1 y2.2.1 n2 y2.2.2.1 [Cond.code y2.1 y2.2.1 n2 y2.2.2.1] (ab_rm d2 kc2 ks2) kc2 ks2 as.length := by
    refine ⟨⟨rfl, rfl, by show d2 + 1 ≤ R.frames; have := hR.1; omega, by show 8 + (n2 + 11) + 64 * d2 ≤ R.locals; have := hR.2.1; omega, ?_, List.mem_cons_self⟩, ab_word hG u4 rfl hW args, ab_word hG u3 rfl hW args, v4, fun sig hs => ?_, ab_word hG v1 rfl hW args, ab_word hG v2 rfl hW args, va_Decl.abs (va_Nw.warmD hW (ab_nw hG v3 rfl)), ab_word hG u1 rfl hW args, ab_word hG u2 rfl hW args⟩
    · intro w hw a' U hU
      rw [List.mem_singleton.mp hw]
      exact ab_word hG u4 rfl (State.WarmedH.trans hW hU) a'
    · rw [hs] at v5
      exact (Option.some.inj v5).symm
  refine ab_back (Q2 := Q2) X hR hl hL hS2 (ab_run (va_runU (nL := L.length) (Ts := []) (As := us.reverse) (b := a) ⟨hx9, hb, hml, hown, fun w hw => by cases hw⟩ (ab_met hM hx) cb ⟨ab_blind, ab_recv hG hW hP ha hc, fun U hU hWU => ⟨⟨_, rfl, _, _, rfl, rfl, hAs⟩, by rw [hU]; exact hP, State.WarmedH.trans hW hWU⟩⟩ rfl (by rw [ab_vs_len hAs]) hL.1 (by rw [List.reverse_reverse]) (by rw [ab_sum hS2]; show 2 * 0 + _ ≤ 8; omega) hd ⟨by have := hR.2.2.1; omega, by have := hR.2.2.2.1; omega⟩)) K (fun Xn h' ce q H1 locs1 h2 => absurd h2 (hx Xn h'))
/-! kinds -/
theorem ab_instY {ci g a ix : Nat} {r : vw_C} {fs : List AbV} (ha : h a = some (kO g ci fs)) (hc : ab_cl[ci]? = some r) (hw : Cond.classLink y.1.cls ix r.1 ∈ lw_tbl) (hd : decode y.2.1 pc = .ok (.instanceof ix, 3)) (K : ab_T l E y d kc ks (pc + 3) L (vI 1 :: S) h Q) : ab_T l E y d kc ks pc L (vR a :: S) h Q := by
  intro p e R s m args below meth c H locs cells slots mc ms ls st X hR hP hl hL hS
  obtain ⟨hx9, hb, hml, hown, hr, hlk, hnm, htb, hW, ho, hG⟩ := id X
  obtain ⟨w9, rest, rfl, hw9, hS⟩ := hS
  cases (show w9 = .ref a from hw9)
  exact va_instS hx9 hb hown (ab_word hG hw rfl hW args) ((ab_K hG hW).1 ci _ hc).2 (ab_recv hG hW hP ha hc) hd (K p e R s m args below meth c H locs cells slots mc ms ls _ X hR hP hl hL ⟨_, _, rfl, ⟨1, rfl, rfl⟩, hS⟩)
theorem ab_instN {ci g a ix : Nat} {r : vw_C} {nm : String} {fs : List AbV} (ha : h a = some (kO g ci fs)) (hc : ab_cl[ci]? = some r) (hw : Cond.classLink y.1.cls ix nm ∈ lw_tbl) (hn : Cond.not (.castable r.1 nm) ∈ flatC (Jvm.Cond.and given_1 narrow_1)) (hd : decode y.2.1 pc = .ok (.instanceof ix, 3)) (K : ab_T l E y d kc ks (pc + 3) L (vI 0 :: S) h Q) : ab_T l E y d kc ks pc L (vR a :: S) h Q := by
  intro p e R s m args below meth c H locs cells slots mc ms ls st X hR hP hl hL hS
  obtain ⟨hx9, hb, hml, hown, hr, hlk, hnm, htb, hW, ho, hG⟩ := id X
  obtain ⟨w9, rest, rfl, hw9, hS⟩ := hS
  cases (show w9 = .ref a from hw9)
  exact va_instNo hx9 hb hown (ab_word hG hw rfl hW args) (va_Nc.moved hW.alike (va_Nc.of (flat_of_before _ hG.2.2.2.2.2 _ hn))) (ab_recv hG hW hP ha hc) hd (K p e R s m args below meth c H locs cells slots mc ms ls _ X hR hP hl hL ⟨_, _, rfl, ⟨0, rfl, rfl⟩, hS⟩)
theorem ab_castY {ci g a ix : Nat} {r : vw_C} {fs : List AbV} (ha : h a = some (kO g ci fs)) (hc : ab_cl[ci]? = some r) (hw : Cond.classLink y.1.cls ix r.1 ∈ lw_tbl) (hd : decode y.2.1 pc = .ok (.checkcast ix, 3)) (K : ab_T l E y d kc ks (pc + 3) L (vR a :: S) h Q) : ab_T l E y d kc ks pc L (vR a :: S) h Q := by
  intro p e R s m args below meth c H locs cells slots mc ms ls st X hR hP hl hL hS
  obtain ⟨hx9, hb, hml, hown, hr, hlk, hnm, htb, hW, ho, hG⟩ := id X
  obtain ⟨w9, rest, rfl, hw9, hS⟩ := hS
  cases (show w9 = .ref a from hw9)
  exact va_castS hx9 hb hown (ab_word hG hw rfl hW args) ((ab_K hG hW).1 ci _ hc).2 (ab_recv hG hW hP ha hc) hd (K p e R s m args below meth c H locs cells slots mc ms ls _ X hR hP hl hL ⟨_, _, rfl, rfl, hS⟩)
/-! the static row, out of a nest mate -/
def ab_zim (E : AbE) (z : Nat) : Prop := va_Z "WordBench" "ZIMIN" "[I" (.ref z) (ab_A E) E.1 E.1.heap
theorem ab_zimin {ix z : Nat} {host : String} (hz : ab_zim E z) (hw : Cond.fieldLinkNest y.1.cls ix "WordBench" "ZIMIN" "[I" host ∈ lw_tbl) (hd : decode y.2.1 pc = .ok (.getstatic ix, 3)) (K : ab_T l E y d kc ks (pc + 3) L (vR z :: S) h Q) : ab_T l E y d kc ks pc L S h Q := by
  intro p e R s m args below meth c H locs cells slots mc ms ls st X hR hP hl hL hS T hT XX
  obtain ⟨hx9, hb, hml, hown, hr, hlk, hnm, htb, hW, ho, hG⟩ := id X
  have hsz : s.heap.size ≤ H.size := by rw [← hT]; exact XX.same.2.1
  have hZ : va_Z "WordBench" "ZIMIN" "[I" (.ref z) (ab_A E) s s.heap := (va_Z.moved hW.alike hz).kept (fun a h1 _ => ho.2 a h1)
  exact va_getsN hx9 hb hZ (ab_frm ho hP hl hsz) hown (va_Nw.use rfl (va_Nw.warmF hW (ab_nw hG hw rfl))) (fun x hx => hx) hd (K p e R s m args below meth c H locs cells slots mc ms ls _ X hR hP hl hL ⟨_, _, rfl, rfl, hS⟩) T hT XX
/-! copying -/
def ab_cpy (f g : Int → Int) (sp dp n : Int) : Int → Int := fun j => if dp ≤ j ∧ j < dp + n then f (sp + (j - dp)) else g j
theorem ab_pairs (at_ : Nat) : ∀ (xs : List Value) (i : Nat) (c : Cell), at_ + i + xs.length ≤ c.slots.size → ∀ k : Nat, (c.storePairs at_ (xs.zipIdx i)).slots[k]? = if at_ + i ≤ k ∧ k < at_ + i + xs.length then xs[k - (at_ + i)]? else c.slots[k]?
  | [], i, c, _, k => by
    rw [if_neg (by simp only [List.length_nil]; omega)]
    rfl
  | x :: xs, i, c, hz, k => by
    rw [List.zipIdx_cons]
    simp only [List.length_cons] at hz ⊢
    show ((c.setSlot (at_ + i) x).storePairs at_ (xs.zipIdx (i + 1))).slots[k]? = _
    rw [ab_pairs at_ xs (i + 1) (c.setSlot (at_ + i) x) (by simp [Cell.setSlot]; omega) k]
    by_cases hk : k = at_ + i
    · subst hk
      rw [if_neg (by omega), if_pos (by omega), Nat.sub_self]
      have hlt : at_ + i < c.slots.size := by omega
      simp [Cell.setSlot, hlt]
    · by_cases g : at_ + (i + 1) ≤ k ∧ k < at_ + (i + 1) + xs.length
      · rw [if_pos g, if_pos (by omega)]
        have e : k - (at_ + i) = (k - (at_ + (i + 1))) + 1 := by omega
        rw [e, List.getElem?_cons_succ]
      · rw [if_neg g, if_neg (by omega)]
        simp [Cell.setSlot, Ne.symm hk]
theorem ab_copy {ix g1 g2 a b n1 n2 : Nat} {f g : Int → Int} {sp dp n : Int} (ha : h a = some (kI g1 n1 f)) (hb9 : h b = some (kI g2 n2 g)) (hg : 2 ≤ g2) (h1 : 0 ≤ sp) (h2 : 0 ≤ dp) (h3 : 0 ≤ n) (h4 : sp + n ≤ n1) (h5 : dp + n ≤ n2) (hw1 : Cond.methodLink y.1.cls ix arraycopyName ∈ lw_tbl) (hw2 : Cond.native arraycopyName ∈ lw_tbl) (hw3 : Cond.static arraycopyName ∈ lw_tbl) (hw4 : Cond.initialized "java/lang/System" ∈ lw_tbl) (hd1 : 2 ≤ d) (hS9 : (S.map ab_w).sum ≤ 8) (hd : decode y.2.1 pc = .ok (.invokestatic ix, 3))
    (K : ab_T l E y d kc ks (pc + 3) L S (ab_up h b (kI g2 n2 (ab_cpy f g sp dp n))) Q) : ab_T l E y d kc ks pc L (vI n :: vI dp :: vR b :: vI sp :: vR a :: S) h Q := by
  intro p e R s m args below meth c H locs cells slots mc ms ls st X hR hP hl hL hS T hT XX
  obtain ⟨hx9, hb, hml, hown, hr, hlk, hnm, htb, hW, ho, hG⟩ := id X
  obtain ⟨_, _, rfl, ⟨un, rfl, hun⟩, _, _, rfl, ⟨ud, rfl, hud⟩, wb, _, rfl, hwb, _, _, rfl, ⟨us, rfl, hus⟩, wa, rest, rfl, hwa, hS2⟩ := hS
  cases (show wb = .ref b from hwb)
  cases (show wa = .ref a from hwa)
  obtain ⟨cs, p1, p2, p3, p4, p5, p6⟩ := (hP.2 a _ ha).1
  obtain ⟨cd, q1, q2, q3, q4, q5, q6⟩ := (hP.2 b _ hb9).1
  have p2' := State.isArrayOf_alike hW.alike p2
  have q2' := State.isArrayOf_alike hW.alike q2
  obtain ⟨o1, kS, hkS, cmS, hkkS⟩ := p2'
  obtain ⟨o2, kD, hkD, cmD, hkkD⟩ := q2'
  have p4' : cs.slots.size = n1 := p4
  have q4' : cd.slots.size = n2 := q4
  have en := ab_nat (v := un) (by omega)
  have ed := ab_nat (v := ud) (by omega)
  have es := ab_nat (v := us) (by omega)
  have nn : ∀ {v : Int32}, 0 ≤ v.toInt → ¬ v < 0 := fun hv g => by have := Int32.lt_iff_toInt_lt.mp g; rw [Int32.toInt_zero] at this; omega
  have rd : ∀ i : Nat, i < un.toNatClampNeg → ∃ v : Int32, cs.slots[us.toNatClampNeg + i]? = some (.int v) ∧ v.toInt = f (sp + i) := by
    intro i hi
    obtain ⟨w, g1, v, rfl, g3⟩ := p6 (us.toNatClampNeg + i) (by show _ < n1; omega)
    refine ⟨v, g1, g3.trans ?_⟩
    show f _ = f _
    congr 1
    omega
  have hnf : nativeFrameWords "java/lang/System" "arraycopy" 5 ≤ 100 := by decide +kernel
  have hloc : 2 * (F0 m pc ls (.int un :: .int ud :: .ref b :: .int us :: .ref a :: rest)).monitorRoom + (rest.map fun v => v.category).sum + (nativeFrameWords "java/lang/System" "arraycopy" 5 + 11) ≤ R.locals := by
    rw [ab_sum hS2]
    have := hR.2.1
    show 2 * 0 + _ + _ ≤ _
    omega
  obtain ⟨vm', X', stp⟩ := XX.arraycopy hx9 hown (ab_word hG hw1 rfl hW args) (ab_word hG hw2 rfl hW args) (ab_word hG hw3 rfl hW args) (ab_word hG hw4 rfl hW args) (src := a) (dst := b) (cs := cs) (cd := cd) (srcPos := us) (destPos := ud) (n := un) (by rw [hT]; exact p1) (by rw [hT]; exact q1) o1 o2 p3 q3 hkS hkD hkkS hkkD rfl (nn (by omega)) (nn (by omega)) (nn (by omega)) (by rw [p4']; omega) (by rw [q4']; omega)
    (fun v1 _ i hi => by
      obtain ⟨v, g1, -⟩ := rd i hi
      rw [Array.getD_eq_getD_getElem?, g1]
      exact ⟨rfl, trivial⟩)
    (g := F0 m pc ls _) rfl (hL.1.trans hml.symm) (rest := rest) rfl (by rw [hb]; exact hd) (by have := hR.1; omega) hloc
  have hlt : b < T.heap.size := by rw [hT]; exact (Array.getElem?_eq_some_iff.mp q1).1
  have e1 : ((T.setVm vm').setCell b (copied cs cd us ud un)).heap[b]? = some (copied cs cd us ud un) := heapAt_setCell_self (s := T.setVm vm') _ hlt
  have e3 : ∀ q : Nat, q ≠ b → ((T.setVm vm').setCell b (copied cs cd us ud un)).heap[q]? = H[q]? := fun q hq => by rw [heapAt_setCell_ne (s := T.setVm vm') _ (Ne.symm hq)]; show T.heap[q]? = _; rw [hT]
  have e2 : ((T.setVm vm').setCell b (copied cs cd us ud un)).heap.size = H.size := by rw [size_setCell]; show T.heap.size = _; rw [hT]
  have hlen : (cs.stretch us.toNatClampNeg un.toNatClampNeg).length = un.toNatClampNeg := by simp [Cell.stretch]
  obtain ⟨f1, f2, f3, -, -⟩ := Cell.storePairs_facts cd ud.toNatClampNeg (cs.stretch us.toNatClampNeg un.toNatClampNeg).zipIdx
  obtain ⟨t2, a1, b1⟩ := K p e R s m args below meth c _ (locs ++ (cs.stretch us.toNatClampNeg un.toNatClampNeg).zipIdx.map fun q => ⟨b, ud.toNatClampNeg + q.2⟩) cells slots mc ms ls rest X hR (hP.set hb9 hg (c1 := kI g2 n2 (ab_cpy f g sp dp n)) (by
      refine ⟨_, e1, ?_, ?_, f3.trans q4, q5, fun j hj => ?_⟩
      · refine ⟨fun k hk => q2.1 k (by rw [← f2]; exact hk), ?_⟩
        rw [show (copied cs cd us ud un).cls = cd.cls from f1]
        exact q2.2
      · intro hh
        exact q3 (by rw [← f2]; exact hh)
      · have hj : j < n2 := hj
        have hp := ab_pairs ud.toNatClampNeg (cs.stretch us.toNatClampNeg un.toNatClampNeg) 0 cd (by rw [hlen, q4']; omega) j
        rw [hlen, Nat.add_zero] at hp
        by_cases g9 : ud.toNatClampNeg ≤ j ∧ j < ud.toNatClampNeg + un.toNatClampNeg
        · rw [if_pos g9] at hp
          obtain ⟨v, g1, g3⟩ := rd (j - ud.toNatClampNeg) (by omega)
          refine ⟨.int v, hp.trans ?_, v, rfl, ?_⟩
          · simp only [Cell.stretch, List.getElem?_map]
            rw [List.getElem?_range (by omega)]
            simp only [Option.map_some, Option.some.injEq]
            rw [Array.getD_eq_getD_getElem?, g1]
            rfl
          · rw [g3]
            show _ = ab_cpy f g sp dp n j
            unfold ab_cpy
            rw [if_pos (by omega)]
            congr 1
            omega
        · rw [if_neg g9] at hp
          obtain ⟨w, g1, v, rfl, g3⟩ := q6 j hj
          refine ⟨.int v, hp.trans g1, v, rfl, g3.trans ?_⟩
          show g j = ab_cpy f g sp dp n j
          unfold ab_cpy
          rw [if_neg (by omega)]) e2 e3) (by
      intro z hz
      rcases List.mem_append.mp hz with g1 | g1
      · exact hl z g1
      · obtain ⟨q, -, rfl⟩ := List.mem_map.mp g1
        exact (hP.2 b _ hb9).2 hg) hL hS2 _ rfl X'
  exact ⟨t2, stp t2 a1, b1⟩
/-! catching -/
/-- a call in a method with a table: what is thrown by the callee is caught by a row of it -/
theorem ab_callVX {ci g a ix n2 d2 kc2 ks2 : Nat} {r : vw_C} {fs : List AbV} {y2 : AbY} {as : List AbV} {S0 : List AbV} {Q2 : AbO → AbH → Prop} (hM : ab_M l E y2 n2 d2 kc2 ks2 (vR a :: as) h Q2) (ha : h a = some (kO g ci fs)) (hc : ab_cl[ci]? = some r) (w : ab_wB y.1.cls ix y2 n2 as.length) (w1 : Cond.instanceMethod y2.1 ∈ lw_tbl) (w2 : Cond.selects r.1 y2.1 y2.1 ∈ lw_tbl) (hS0 : S0 = as.reverse ++ vR a :: S) (hd2 : d2 + 1 ≤ d) (hn2 : n2 ≤ 45) (hS9 : (S.map ab_w).sum ≤ 8) (hd : decode y.2.1 pc = .ok (.invokevirtual ix, 3))
    (KX : ∀ (Xn : String) (h' : AbH), Q2 (.inr Xn) h' → ∃ (pre : List (Nat × Nat × Nat × Nat)) (x : Nat × Nat × Nat × Nat) (suf : List (Nat × Nat × Nat × Nat)), y.2.2.2 = pre ++ x :: suf ∧
      (∀ z ∈ pre, z.2.2.2 ≠ 0 ∧ ∃ nm, Cond.classLink y.1.cls z.2.2.2 nm ∈ lw_tbl ∧ Cond.not (.castable Xn nm) ∈ flatC (Jvm.Cond.and given_1 narrow_1)) ∧ covers ⟨x.1, x.2.1, x.2.2.1, x.2.2.2⟩ pc = true ∧ x.2.2.2 ≠ 0 ∧ Cond.classLink y.1.cls x.2.2.2 Xn ∈ lw_tbl ∧ Cond.castable Xn Xn ∈ lw_tbl ∧ ∀ q : Nat, ab_T l E y d kc ks x.2.2.1 L [vR q] h' Q)
    (K : ∀ r h', Q2 (.inl r) h' → ab_T l E y d kc ks (pc + 3) L (r.toList ++ S) h' Q) : ab_T l E y d (kc + kc2) (ks + ks2) pc L S0 h Q := by
  intro p e R s m args below meth c H locs cells slots mc ms ls st X hR hP hl hL hS
  subst hS0
  obtain ⟨hx9, hb, hml, hown, hr, hlk, hnm, htb, hW, ho, hG⟩ := id X
  obtain ⟨us, vs, rfl, hu, w9, rest, rfl, hw9, hS2⟩ := ab_vs_split hS
  cases (show w9 = .ref a from hw9)
  have hAs : ab_vs as us.reverse := by have := ab_vs_rev hu; rwa [List.reverse_reverse] at this
  refine ab_back X hR hl hL hS2 (vx_runV (nL := L.length) (Ts := []) (As := us.reverse) (b := a) ⟨hx9, hb, hml, hown, fun w hw => by cases hw⟩ hM ⟨ab_cb w hG hW hd2 hn2 ⟨hR.1, hR.2.1⟩, ab_word hG w1 rfl hW args, ab_word hG w2 rfl hW args⟩ ⟨ab_blind, ab_recv hG hW hP ha hc, fun U hU hWU => ⟨⟨_, rfl, _, _, rfl, rfl, hAs⟩, by rw [hU]; exact hP, State.WarmedH.trans hW hWU⟩⟩ rfl (by rw [ab_vs_len hAs]) hL.1 (by rw [List.reverse_reverse]) (by rw [ab_sum hS2]; show 2 * 0 + _ ≤ 8; omega) hd ⟨by have := hR.2.2.1; omega, by have := hR.2.2.2.1; omega⟩) K ?_
  intro Xn h' ce q H1 locs1 h2 hP1 hl1 hce hcv hcl
  obtain ⟨pre, x, suf, e1, e2, e3, e4, e5, e6, e7⟩ := KX Xn h' h2
  refine vx_catch (own := y.1.cls) (name := Xn) (E := Xn) hown (pre.map fun q => ⟨q.1, q.2.1, q.2.2.1, q.2.2.2⟩) ⟨x.1, x.2.1, x.2.2.1, x.2.2.2⟩ (suf.map fun q => ⟨q.1, q.2.1, q.2.2.1, q.2.2.2⟩) (by rw [htb, e1, tableOf, List.map_append, List.map_cons]) ?_ e3 e4 (ab_word hG e5 rfl hW args) (va_Nw.use rfl (va_Nw.warmC hW (ab_nw hG e6 rfl))) hce hcv hcl (e7 q p e R s m args below meth c H1 locs1 _ _ mc ms ls _ X (ab_room hR) hP1 hl1 hL ⟨_, _, rfl, rfl, rfl⟩)
  intro z hz
  obtain ⟨z0, hz0, rfl⟩ := List.mem_map.mp hz
  obtain ⟨g1, nm, g2, g3⟩ := e2 z0 hz0
  exact Or.inr ⟨g1, nm, ab_word hG g2 rfl hW args, va_Nc.moved hW.alike (va_Nc.of (flat_of_before _ hG.2.2.2.2.2 _ g3))⟩
/-- a static call of a method with a table of its own -/
theorem ab_callSW {ix n2 d2 kc2 ks2 : Nat} {y2 : AbY} {as : List AbV} {S0 : List AbV} {Q2 : AbO → AbH → Prop} (hM : ab_MW l E y2 n2 d2 kc2 ks2 as h Q2) (w : Cond.methodLink y.1.cls ix y2.1 ∈ lw_tbl ∧ Cond.static y2.1 ∈ lw_tbl ∧ Cond.initialized y2.1.cls ∈ lw_tbl ∧ Cond.codeWith y2.1 y2.2.1 n2 y2.2.2.1 y2.2.2.2 ∈ lw_tbl ∧ (y2.1.cls ≠ "java/lang/invoke/MethodHandle" ∧ y2.1.cls ≠ "java/lang/invoke/VarHandle") ∧ (parseMethodDescriptor y2.1.desc).map (fun d => d.parameters.length) = some as.length) (hS0 : S0 = as.reverse ++ S) (hd2 : d2 + 1 ≤ d) (hn2 : n2 ≤ 45) (hS9 : (S.map ab_w).sum ≤ 8) (hd : decode y.2.1 pc = .ok (.invokestatic ix, 3))
    (K : ∀ r h', Q2 (.inl r) h' → ab_T l E y d kc ks (pc + 3) L (r.toList ++ S) h' Q) : ab_T l E y d (kc + kc2) (ks + ks2) pc L S0 h Q := by
  intro p e R s m args below meth c H locs cells slots mc ms ls st X hR hP hl hL hS
  subst hS0
  obtain ⟨hx9, hb, hml, hown, hr, hlk, hnm, htb, hW, ho, hG⟩ := id X
  obtain ⟨us, rest, rfl, hu, hS2⟩ := ab_vs_split hS
  have hAs : ab_vs as us.reverse := by have := ab_vs_rev hu; rwa [List.reverse_reverse] at this
  obtain ⟨v1, v2, v3, v4, v5, v6⟩ := w
  have cb : vx_CSW R s args y.1.cls ix y2.1 y2.2.1 n2 y2.2.2.1 y2.2.2.2 [Cond.codeWith y2.1 y2.2.1 n2 y2.2.2.1 y2.2.2.2] (ab_rm d2 kc2 ks2) kc2 ks2 as.length := by
    refine ⟨⟨rfl, rfl, by show d2 + 1 ≤ R.frames; have := hR.1; omega, by show 8 + (n2 + 11) + 64 * d2 ≤ R.locals; have := hR.2.1; omega, ?_, List.mem_cons_self⟩, ab_word hG v4 rfl hW args, ab_word hG v3 rfl hW args, v5, fun sig hs => ?_, ab_word hG v1 rfl hW args, ab_word hG v2 rfl hW args⟩
    · intro w hw a' U hU
      rw [List.mem_singleton.mp hw]
      exact ab_word hG v4 rfl (State.WarmedH.trans hW hU) a'
    · rw [hs] at v6
      exact (Option.some.inj v6).symm
  have hMet : Met l y2.1 [Cond.codeWith y2.1 y2.2.1 n2 y2.2.2.1 y2.2.2.2] (ab_rm d2 kc2 ks2) (ab_Pc E as h) (ab_Q E Q2) kc2 ks2 (ab_A E) := hM
  intro T hT XX
  obtain ⟨v, st0, t, T', L', h0, X', hL', e1, e2, ⟨v', r, h', hv, hov, hP', hq⟩, stp⟩ := vx_runSW (nL := L.length) (Ts := []) (As := us.reverse) (g := F0 m pc ls (us ++ rest)) (H := H) ⟨hx9, hb, hml, hown, fun w hw => by cases hw⟩ hMet cb ⟨ab_blind, fun U hU hWU => ⟨⟨_, rfl, hAs⟩, by rw [hU]; exact hP, State.WarmedH.trans hW hWU⟩⟩ rfl (by rw [ab_vs_len hAs]) hL.1 (rest := rest) (by rw [List.reverse_reverse]) (by rw [ab_sum hS2]; show 2 * 0 + _ ≤ 8; omega) hd ⟨by have := hR.2.2.1; omega, by have := hR.2.2.2.1; omega⟩ T hT XX
  cases hv
  obtain ⟨t2, a1, b1⟩ := K r h' hq p e R s m args below meth c T'.heap (locs ++ L') _ _ mc ms ls (v.toList ++ rest) X (ab_room hR) (by rw [e1]; exact hP') (fun z hz => (List.mem_append.mp hz).elim (hl z) (hL' z)) hL (by
      cases r with
      | none => rw [show v = none from hov]; exact hS2
      | some x => obtain ⟨w, rfl, hw⟩ := hov; exact ⟨w, rest, rfl, hw, hS2⟩) T' rfl X'
  exact ⟨t2, stp t2 a1, b1⟩
end ABR
end
