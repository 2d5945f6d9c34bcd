-- ===== PART A: goes FIRST, ahead of the names: the tables' words, and 'selects' of the private methods out of them =====
/-- a private method of a class that the tables say can be made, by its rows of tables_1 -/
def lw_okq (q : MethodName × Nat) : Prop := (q.1.cls ≠ "java/lang/invoke/MethodHandle" ∧ q.1.cls ≠ "java/lang/invoke/VarHandle") ∧ Cond.instantiable q.1.cls q.2 ∈ tables_1 ∧ Cond.privateMethod q.1 ∈ tables_1 ∧ Cond.instanceMethod q.1 ∈ tables_1
theorem lw_p0 : lw_okq (⟨"PennyMore$Shop", "holds", "(II[I)Z"⟩, 10) := ⟨⟨by decide +kernel, by decide +kernel⟩, List.mem_of_getElem? (i := 30) (by decide +kernel), List.mem_of_getElem? (i := 412) (by decide +kernel), List.mem_of_getElem? (i := 413) (by decide +kernel)⟩
theorem lw_p1 : lw_okq (⟨"PennyMore", "rowDigits", "(I)I"⟩, 13) := ⟨⟨by decide +kernel, by decide +kernel⟩, List.mem_of_getElem? (i := 22) (by decide +kernel), List.mem_of_getElem? (i := 419) (by decide +kernel), List.mem_of_getElem? (i := 420) (by decide +kernel)⟩
theorem lw_p2 : lw_okq (⟨"PennyMore$Reader", "clause", "()Z"⟩, 4) := ⟨⟨by decide +kernel, by decide +kernel⟩, List.mem_of_getElem? (i := 180) (by decide +kernel), List.mem_of_getElem? (i := 462) (by decide +kernel), List.mem_of_getElem? (i := 463) (by decide +kernel)⟩
theorem lw_p3 : lw_okq (⟨"PennyMore$Reader", "next", "()I"⟩, 4) := ⟨⟨by decide +kernel, by decide +kernel⟩, List.mem_of_getElem? (i := 180) (by decide +kernel), List.mem_of_getElem? (i := 466) (by decide +kernel), List.mem_of_getElem? (i := 467) (by decide +kernel)⟩
theorem lw_p4 : lw_okq (⟨"PennyMore$Reader", "word", "(Ljava/lang/String;)Z"⟩, 4) := ⟨⟨by decide +kernel, by decide +kernel⟩, List.mem_of_getElem? (i := 180) (by decide +kernel), List.mem_of_getElem? (i := 484) (by decide +kernel), List.mem_of_getElem? (i := 485) (by decide +kernel)⟩
theorem lw_p5 : lw_okq (⟨"PennyMore$Reader", "number", "()I"⟩, 4) := ⟨⟨by decide +kernel, by decide +kernel⟩, List.mem_of_getElem? (i := 180) (by decide +kernel), List.mem_of_getElem? (i := 536) (by decide +kernel), List.mem_of_getElem? (i := 537) (by decide +kernel)⟩
theorem lw_p6 : lw_okq (⟨"PennyMore$Reader", "either", "(I)Z"⟩, 4) := ⟨⟨by decide +kernel, by decide +kernel⟩, List.mem_of_getElem? (i := 180) (by decide +kernel), List.mem_of_getElem? (i := 541) (by decide +kernel), List.mem_of_getElem? (i := 542) (by decide +kernel)⟩
theorem lw_p7 : lw_okq (⟨"PennyMore$Reader", "both", "(I)Z"⟩, 4) := ⟨⟨by decide +kernel, by decide +kernel⟩, List.mem_of_getElem? (i := 180) (by decide +kernel), List.mem_of_getElem? (i := 545) (by decide +kernel), List.mem_of_getElem? (i := 546) (by decide +kernel)⟩
theorem lw_p8 : lw_okq (⟨"PennyMore$Reader", "factor", "(I)Z"⟩, 4) := ⟨⟨by decide +kernel, by decide +kernel⟩, List.mem_of_getElem? (i := 180) (by decide +kernel), List.mem_of_getElem? (i := 549) (by decide +kernel), List.mem_of_getElem? (i := 550) (by decide +kernel)⟩
theorem lw_p9 : lw_okq (⟨"PennyMore$Reader", "test", "()Z"⟩, 4) := ⟨⟨by decide +kernel, by decide +kernel⟩, List.mem_of_getElem? (i := 180) (by decide +kernel), List.mem_of_getElem? (i := 553) (by decide +kernel), List.mem_of_getElem? (i := 554) (by decide +kernel)⟩
theorem lw_p10 : lw_okq (⟨"PennyMore", "runTrial", "()V"⟩, 13) := ⟨⟨by decide +kernel, by decide +kernel⟩, List.mem_of_getElem? (i := 22) (by decide +kernel), List.mem_of_getElem? (i := 731) (by decide +kernel), List.mem_of_getElem? (i := 732) (by decide +kernel)⟩
theorem lw_p11 : lw_okq (⟨"PennyMore", "whoGetsLoaves", "()I"⟩, 13) := ⟨⟨by decide +kernel, by decide +kernel⟩, List.mem_of_getElem? (i := 22) (by decide +kernel), List.mem_of_getElem? (i := 741) (by decide +kernel), List.mem_of_getElem? (i := 742) (by decide +kernel)⟩
theorem lw_p12 : lw_okq (⟨"PennyMore", "gainByFirst", "(III)I"⟩, 13) := ⟨⟨by decide +kernel, by decide +kernel⟩, List.mem_of_getElem? (i := 22) (by decide +kernel), List.mem_of_getElem? (i := 750) (by decide +kernel), List.mem_of_getElem? (i := 751) (by decide +kernel)⟩
theorem lw_p13 : lw_okq (⟨"PennyMore", "findBestLineup", "(I)I"⟩, 13) := ⟨⟨by decide +kernel, by decide +kernel⟩, List.mem_of_getElem? (i := 22) (by decide +kernel), List.mem_of_getElem? (i := 763) (by decide +kernel), List.mem_of_getElem? (i := 764) (by decide +kernel)⟩
theorem lw_p14 : lw_okq (⟨"PennyMore", "startLineups", "()V"⟩, 13) := ⟨⟨by decide +kernel, by decide +kernel⟩, List.mem_of_getElem? (i := 22) (by decide +kernel), List.mem_of_getElem? (i := 767) (by decide +kernel), List.mem_of_getElem? (i := 768) (by decide +kernel)⟩
theorem lw_p15 : lw_okq (⟨"PennyMore", "standAsLineup", "()V"⟩, 13) := ⟨⟨by decide +kernel, by decide +kernel⟩, List.mem_of_getElem? (i := 22) (by decide +kernel), List.mem_of_getElem? (i := 771) (by decide +kernel), List.mem_of_getElem? (i := 772) (by decide +kernel)⟩
def lw_privs_1 : List (MethodName × Nat) := [(⟨"PennyMore$Shop", "holds", "(II[I)Z"⟩, 10), (⟨"PennyMore", "rowDigits", "(I)I"⟩, 13), (⟨"PennyMore$Reader", "clause", "()Z"⟩, 4), (⟨"PennyMore$Reader", "next", "()I"⟩, 4), (⟨"PennyMore$Reader", "word", "(Ljava/lang/String;)Z"⟩, 4), (⟨"PennyMore$Reader", "number", "()I"⟩, 4), (⟨"PennyMore$Reader", "either", "(I)Z"⟩, 4), (⟨"PennyMore$Reader", "both", "(I)Z"⟩, 4), (⟨"PennyMore$Reader", "factor", "(I)Z"⟩, 4), (⟨"PennyMore$Reader", "test", "()Z"⟩, 4), (⟨"PennyMore", "runTrial", "()V"⟩, 13), (⟨"PennyMore", "whoGetsLoaves", "()I"⟩, 13), (⟨"PennyMore", "gainByFirst", "(III)I"⟩, 13), (⟨"PennyMore", "findBestLineup", "(I)I"⟩, 13), (⟨"PennyMore", "startLineups", "()V"⟩, 13), (⟨"PennyMore", "standAsLineup", "()V"⟩, 13)]
theorem lw_r1 : ∀ q ∈ lw_privs_1, lw_okq q := List.forall_mem_cons.mpr ⟨lw_p0, List.forall_mem_cons.mpr ⟨lw_p1, List.forall_mem_cons.mpr ⟨lw_p2, List.forall_mem_cons.mpr ⟨lw_p3, List.forall_mem_cons.mpr ⟨lw_p4, List.forall_mem_cons.mpr ⟨lw_p5, List.forall_mem_cons.mpr ⟨lw_p6, List.forall_mem_cons.mpr ⟨lw_p7, List.forall_mem_cons.mpr ⟨lw_p8, List.forall_mem_cons.mpr ⟨lw_p9, List.forall_mem_cons.mpr ⟨lw_p10, List.forall_mem_cons.mpr ⟨lw_p11, List.forall_mem_cons.mpr ⟨lw_p12, List.forall_mem_cons.mpr ⟨lw_p13, List.forall_mem_cons.mpr ⟨lw_p14, List.forall_mem_cons.mpr ⟨lw_p15, fun _ h => absurd h List.not_mem_nil⟩⟩⟩⟩⟩⟩⟩⟩⟩⟩⟩⟩⟩⟩⟩⟩
theorem lw_p16 : lw_okq (⟨"PennyMore", "nextLineup", "()Z"⟩, 13) := ⟨⟨by decide +kernel, by decide +kernel⟩, List.mem_of_getElem? (i := 22) (by decide +kernel), List.mem_of_getElem? (i := 776) (by decide +kernel), List.mem_of_getElem? (i := 777) (by decide +kernel)⟩
theorem lw_p17 : lw_okq (⟨"PennyMore", "swapInLineup", "(II)V"⟩, 13) := ⟨⟨by decide +kernel, by decide +kernel⟩, List.mem_of_getElem? (i := 22) (by decide +kernel), List.mem_of_getElem? (i := 780) (by decide +kernel), List.mem_of_getElem? (i := 781) (by decide +kernel)⟩
theorem lw_p18 : lw_okq (⟨"PennyMore", "bothLikeSwap", "(I)Z"⟩, 13) := ⟨⟨by decide +kernel, by decide +kernel⟩, List.mem_of_getElem? (i := 22) (by decide +kernel), List.mem_of_getElem? (i := 788) (by decide +kernel), List.mem_of_getElem? (i := 789) (by decide +kernel)⟩
theorem lw_p19 : lw_okq (⟨"PennyMore", "nobodyRefuses", "(I)Z"⟩, 13) := ⟨⟨by decide +kernel, by decide +kernel⟩, List.mem_of_getElem? (i := 22) (by decide +kernel), List.mem_of_getElem? (i := 804) (by decide +kernel), List.mem_of_getElem? (i := 805) (by decide +kernel)⟩
theorem lw_p20 : lw_okq (⟨"PennyMore", "takersAt", "(I)I"⟩, 13) := ⟨⟨by decide +kernel, by decide +kernel⟩, List.mem_of_getElem? (i := 22) (by decide +kernel), List.mem_of_getElem? (i := 812) (by decide +kernel), List.mem_of_getElem? (i := 813) (by decide +kernel)⟩
theorem lw_p21 : lw_okq (⟨"PennyMore", "weightOf", "(I)J"⟩, 13) := ⟨⟨by decide +kernel, by decide +kernel⟩, List.mem_of_getElem? (i := 22) (by decide +kernel), List.mem_of_getElem? (i := 831) (by decide +kernel), List.mem_of_getElem? (i := 832) (by decide +kernel)⟩
theorem lw_p22 : lw_okq (⟨"PennyMore", "whoSaysYes", "(I)I"⟩, 13) := ⟨⟨by decide +kernel, by decide +kernel⟩, List.mem_of_getElem? (i := 22) (by decide +kernel), List.mem_of_getElem? (i := 835) (by decide +kernel), List.mem_of_getElem? (i := 836) (by decide +kernel)⟩
theorem lw_p23 : lw_okq (⟨"PennyMoreModel", "isBuyer", "(I)Z"⟩, 76) := ⟨⟨by decide +kernel, by decide +kernel⟩, List.mem_of_getElem? (i := 1001) (by decide +kernel), List.mem_of_getElem? (i := 1248) (by decide +kernel), List.mem_of_getElem? (i := 1249) (by decide +kernel)⟩
theorem lw_p24 : lw_okq (⟨"PennyMoreModel", "placeOf", "(I)I"⟩, 76) := ⟨⟨by decide +kernel, by decide +kernel⟩, List.mem_of_getElem? (i := 1001) (by decide +kernel), List.mem_of_getElem? (i := 1252) (by decide +kernel), List.mem_of_getElem? (i := 1253) (by decide +kernel)⟩
theorem lw_p25 : lw_okq (⟨"PennyMoreModel", "valueOf", "(I)I"⟩, 76) := ⟨⟨by decide +kernel, by decide +kernel⟩, List.mem_of_getElem? (i := 1001) (by decide +kernel), List.mem_of_getElem? (i := 1256) (by decide +kernel), List.mem_of_getElem? (i := 1257) (by decide +kernel)⟩
theorem lw_p26 : lw_okq (⟨"PennyMoreModel", "sumOf", "(II)I"⟩, 76) := ⟨⟨by decide +kernel, by decide +kernel⟩, List.mem_of_getElem? (i := 1001) (by decide +kernel), List.mem_of_getElem? (i := 1260) (by decide +kernel), List.mem_of_getElem? (i := 1261) (by decide +kernel)⟩
theorem lw_p27 : lw_okq (⟨"PennyMoreModel", "doesHold", "(II)Z"⟩, 76) := ⟨⟨by decide +kernel, by decide +kernel⟩, List.mem_of_getElem? (i := 1001) (by decide +kernel), List.mem_of_getElem? (i := 1264) (by decide +kernel), List.mem_of_getElem? (i := 1265) (by decide +kernel)⟩
theorem lw_p28 : lw_okq (⟨"PennyMoreModel", "testOf", "(II)I"⟩, 76) := ⟨⟨by decide +kernel, by decide +kernel⟩, List.mem_of_getElem? (i := 1001) (by decide +kernel), List.mem_of_getElem? (i := 1268) (by decide +kernel), List.mem_of_getElem? (i := 1269) (by decide +kernel)⟩
theorem lw_p29 : lw_okq (⟨"PennyMoreModel", "costOf", "(I)I"⟩, 76) := ⟨⟨by decide +kernel, by decide +kernel⟩, List.mem_of_getElem? (i := 1001) (by decide +kernel), List.mem_of_getElem? (i := 1272) (by decide +kernel), List.mem_of_getElem? (i := 1273) (by decide +kernel)⟩
theorem lw_p30 : lw_okq (⟨"PennyMoreModel", "shopRead", "()I"⟩, 76) := ⟨⟨by decide +kernel, by decide +kernel⟩, List.mem_of_getElem? (i := 1001) (by decide +kernel), List.mem_of_getElem? (i := 1305) (by decide +kernel), List.mem_of_getElem? (i := 1306) (by decide +kernel)⟩
theorem lw_p31 : lw_okq (⟨"PennyMoreModel", "clauseRead", "()Z"⟩, 76) := ⟨⟨by decide +kernel, by decide +kernel⟩, List.mem_of_getElem? (i := 1001) (by decide +kernel), List.mem_of_getElem? (i := 1309) (by decide +kernel), List.mem_of_getElem? (i := 1310) (by decide +kernel)⟩
def lw_privs_2 : List (MethodName × Nat) := [(⟨"PennyMore", "nextLineup", "()Z"⟩, 13), (⟨"PennyMore", "swapInLineup", "(II)V"⟩, 13), (⟨"PennyMore", "bothLikeSwap", "(I)Z"⟩, 13), (⟨"PennyMore", "nobodyRefuses", "(I)Z"⟩, 13), (⟨"PennyMore", "takersAt", "(I)I"⟩, 13), (⟨"PennyMore", "weightOf", "(I)J"⟩, 13), (⟨"PennyMore", "whoSaysYes", "(I)I"⟩, 13), (⟨"PennyMoreModel", "isBuyer", "(I)Z"⟩, 76), (⟨"PennyMoreModel", "placeOf", "(I)I"⟩, 76), (⟨"PennyMoreModel", "valueOf", "(I)I"⟩, 76), (⟨"PennyMoreModel", "sumOf", "(II)I"⟩, 76), (⟨"PennyMoreModel", "doesHold", "(II)Z"⟩, 76), (⟨"PennyMoreModel", "testOf", "(II)I"⟩, 76), (⟨"PennyMoreModel", "costOf", "(I)I"⟩, 76), (⟨"PennyMoreModel", "shopRead", "()I"⟩, 76), (⟨"PennyMoreModel", "clauseRead", "()Z"⟩, 76)]
theorem lw_r2 : ∀ q ∈ lw_privs_2, lw_okq q := List.forall_mem_cons.mpr ⟨lw_p16, List.forall_mem_cons.mpr ⟨lw_p17, List.forall_mem_cons.mpr ⟨lw_p18, List.forall_mem_cons.mpr ⟨lw_p19, List.forall_mem_cons.mpr ⟨lw_p20, List.forall_mem_cons.mpr ⟨lw_p21, List.forall_mem_cons.mpr ⟨lw_p22, List.forall_mem_cons.mpr ⟨lw_p23, List.forall_mem_cons.mpr ⟨lw_p24, List.forall_mem_cons.mpr ⟨lw_p25, List.forall_mem_cons.mpr ⟨lw_p26, List.forall_mem_cons.mpr ⟨lw_p27, List.forall_mem_cons.mpr ⟨lw_p28, List.forall_mem_cons.mpr ⟨lw_p29, List.forall_mem_cons.mpr ⟨lw_p30, List.forall_mem_cons.mpr ⟨lw_p31, fun _ h => absurd h List.not_mem_nil⟩⟩⟩⟩⟩⟩⟩⟩⟩⟩⟩⟩⟩⟩⟩⟩
theorem lw_p32 : lw_okq (⟨"PennyMoreModel", "wordRead", "()I"⟩, 76) := ⟨⟨by decide +kernel, by decide +kernel⟩, List.mem_of_getElem? (i := 1001) (by decide +kernel), List.mem_of_getElem? (i := 1313) (by decide +kernel), List.mem_of_getElem? (i := 1314) (by decide +kernel)⟩
theorem lw_p33 : lw_okq (⟨"PennyMoreModel", "sign", "()I"⟩, 76) := ⟨⟨by decide +kernel, by decide +kernel⟩, List.mem_of_getElem? (i := 1001) (by decide +kernel), List.mem_of_getElem? (i := 1317) (by decide +kernel), List.mem_of_getElem? (i := 1318) (by decide +kernel)⟩
theorem lw_p34 : lw_okq (⟨"PennyMoreModel", "goesBy", "(I)Z"⟩, 76) := ⟨⟨by decide +kernel, by decide +kernel⟩, List.mem_of_getElem? (i := 1001) (by decide +kernel), List.mem_of_getElem? (i := 1321) (by decide +kernel), List.mem_of_getElem? (i := 1322) (by decide +kernel)⟩
theorem lw_p35 : lw_okq (⟨"PennyMoreModel", "numberRead", "()I"⟩, 76) := ⟨⟨by decide +kernel, by decide +kernel⟩, List.mem_of_getElem? (i := 1001) (by decide +kernel), List.mem_of_getElem? (i := 1325) (by decide +kernel), List.mem_of_getElem? (i := 1326) (by decide +kernel)⟩
theorem lw_p36 : lw_okq (⟨"PennyMoreModel", "eRead", "()Z"⟩, 76) := ⟨⟨by decide +kernel, by decide +kernel⟩, List.mem_of_getElem? (i := 1001) (by decide +kernel), List.mem_of_getElem? (i := 1332) (by decide +kernel), List.mem_of_getElem? (i := 1333) (by decide +kernel)⟩
theorem lw_p37 : lw_okq (⟨"PennyMoreModel", "opens", "(I)Z"⟩, 76) := ⟨⟨by decide +kernel, by decide +kernel⟩, List.mem_of_getElem? (i := 1001) (by decide +kernel), List.mem_of_getElem? (i := 1336) (by decide +kernel), List.mem_of_getElem? (i := 1337) (by decide +kernel)⟩
theorem lw_p38 : lw_okq (⟨"PennyMoreModel", "testRead", "()Z"⟩, 76) := ⟨⟨by decide +kernel, by decide +kernel⟩, List.mem_of_getElem? (i := 1001) (by decide +kernel), List.mem_of_getElem? (i := 1340) (by decide +kernel), List.mem_of_getElem? (i := 1341) (by decide +kernel)⟩
theorem lw_p39 : lw_okq (⟨"PennyMoreModel", "codes", "(I)V"⟩, 76) := ⟨⟨by decide +kernel, by decide +kernel⟩, List.mem_of_getElem? (i := 1001) (by decide +kernel), List.mem_of_getElem? (i := 1344) (by decide +kernel), List.mem_of_getElem? (i := 1345) (by decide +kernel)⟩
theorem lw_p40 : lw_okq (⟨"PennyMoreModel", "noMoreNots", "()V"⟩, 76) := ⟨⟨by decide +kernel, by decide +kernel⟩, List.mem_of_getElem? (i := 1001) (by decide +kernel), List.mem_of_getElem? (i := 1348) (by decide +kernel), List.mem_of_getElem? (i := 1349) (by decide +kernel)⟩
theorem lw_p41 : lw_okq (⟨"PennyMoreModel", "unwinds", "(I)V"⟩, 76) := ⟨⟨by decide +kernel, by decide +kernel⟩, List.mem_of_getElem? (i := 1001) (by decide +kernel), List.mem_of_getElem? (i := 1352) (by decide +kernel), List.mem_of_getElem? (i := 1353) (by decide +kernel)⟩
theorem lw_p42 : lw_okq (⟨"PennyMoreModel", "lawOf", "(I)I"⟩, 76) := ⟨⟨by decide +kernel, by decide +kernel⟩, List.mem_of_getElem? (i := 1001) (by decide +kernel), List.mem_of_getElem? (i := 1360) (by decide +kernel), List.mem_of_getElem? (i := 1361) (by decide +kernel)⟩
theorem lw_p43 : lw_okq (⟨"PennyMoreModel", "wouldBe", "(I)I"⟩, 76) := ⟨⟨by decide +kernel, by decide +kernel⟩, List.mem_of_getElem? (i := 1001) (by decide +kernel), List.mem_of_getElem? (i := 1368) (by decide +kernel), List.mem_of_getElem? (i := 1369) (by decide +kernel)⟩
theorem lw_p44 : lw_okq (⟨"PennyMoreModel", "asPlain", "(I)I"⟩, 76) := ⟨⟨by decide +kernel, by decide +kernel⟩, List.mem_of_getElem? (i := 1001) (by decide +kernel), List.mem_of_getElem? (i := 1372) (by decide +kernel), List.mem_of_getElem? (i := 1373) (by decide +kernel)⟩
theorem lw_p45 : lw_okq (⟨"PennyMoreModel", "gainOf", "(I)I"⟩, 76) := ⟨⟨by decide +kernel, by decide +kernel⟩, List.mem_of_getElem? (i := 1001) (by decide +kernel), List.mem_of_getElem? (i := 1376) (by decide +kernel), List.mem_of_getElem? (i := 1377) (by decide +kernel)⟩
theorem lw_p46 : lw_okq (⟨"PennyMoreModel", "asWaiting", "(I)I"⟩, 76) := ⟨⟨by decide +kernel, by decide +kernel⟩, List.mem_of_getElem? (i := 1001) (by decide +kernel), List.mem_of_getElem? (i := 1380) (by decide +kernel), List.mem_of_getElem? (i := 1381) (by decide +kernel)⟩
theorem lw_p47 : lw_okq (⟨"PennyMoreModel", "mayAway", "(I)Z"⟩, 76) := ⟨⟨by decide +kernel, by decide +kernel⟩, List.mem_of_getElem? (i := 1001) (by decide +kernel), List.mem_of_getElem? (i := 1384) (by decide +kernel), List.mem_of_getElem? (i := 1385) (by decide +kernel)⟩
def lw_privs_3 : List (MethodName × Nat) := [(⟨"PennyMoreModel", "wordRead", "()I"⟩, 76), (⟨"PennyMoreModel", "sign", "()I"⟩, 76), (⟨"PennyMoreModel", "goesBy", "(I)Z"⟩, 76), (⟨"PennyMoreModel", "numberRead", "()I"⟩, 76), (⟨"PennyMoreModel", "eRead", "()Z"⟩, 76), (⟨"PennyMoreModel", "opens", "(I)Z"⟩, 76), (⟨"PennyMoreModel", "testRead", "()Z"⟩, 76), (⟨"PennyMoreModel", "codes", "(I)V"⟩, 76), (⟨"PennyMoreModel", "noMoreNots", "()V"⟩, 76), (⟨"PennyMoreModel", "unwinds", "(I)V"⟩, 76), (⟨"PennyMoreModel", "lawOf", "(I)I"⟩, 76), (⟨"PennyMoreModel", "wouldBe", "(I)I"⟩, 76), (⟨"PennyMoreModel", "asPlain", "(I)I"⟩, 76), (⟨"PennyMoreModel", "gainOf", "(I)I"⟩, 76), (⟨"PennyMoreModel", "asWaiting", "(I)I"⟩, 76), (⟨"PennyMoreModel", "mayAway", "(I)Z"⟩, 76)]
theorem lw_r3 : ∀ q ∈ lw_privs_3, lw_okq q := List.forall_mem_cons.mpr ⟨lw_p32, List.forall_mem_cons.mpr ⟨lw_p33, List.forall_mem_cons.mpr ⟨lw_p34, List.forall_mem_cons.mpr ⟨lw_p35, List.forall_mem_cons.mpr ⟨lw_p36, List.forall_mem_cons.mpr ⟨lw_p37, List.forall_mem_cons.mpr ⟨lw_p38, List.forall_mem_cons.mpr ⟨lw_p39, List.forall_mem_cons.mpr ⟨lw_p40, List.forall_mem_cons.mpr ⟨lw_p41, List.forall_mem_cons.mpr ⟨lw_p42, List.forall_mem_cons.mpr ⟨lw_p43, List.forall_mem_cons.mpr ⟨lw_p44, List.forall_mem_cons.mpr ⟨lw_p45, List.forall_mem_cons.mpr ⟨lw_p46, List.forall_mem_cons.mpr ⟨lw_p47, fun _ h => absurd h List.not_mem_nil⟩⟩⟩⟩⟩⟩⟩⟩⟩⟩⟩⟩⟩⟩⟩⟩
theorem lw_p48 : lw_okq (⟨"PennyMoreModel", "asBuyer", "(I)I"⟩, 76) := ⟨⟨by decide +kernel, by decide +kernel⟩, List.mem_of_getElem? (i := 1001) (by decide +kernel), List.mem_of_getElem? (i := 1388) (by decide +kernel), List.mem_of_getElem? (i := 1389) (by decide +kernel)⟩
theorem lw_p49 : lw_okq (⟨"PennyMoreModel", "asFalling", "(I)I"⟩, 76) := ⟨⟨by decide +kernel, by decide +kernel⟩, List.mem_of_getElem? (i := 1001) (by decide +kernel), List.mem_of_getElem? (i := 1392) (by decide +kernel), List.mem_of_getElem? (i := 1393) (by decide +kernel)⟩
theorem lw_p50 : lw_okq (⟨"PennyMoreModel", "comes", "()Z"⟩, 76) := ⟨⟨by decide +kernel, by decide +kernel⟩, List.mem_of_getElem? (i := 1001) (by decide +kernel), List.mem_of_getElem? (i := 1400) (by decide +kernel), List.mem_of_getElem? (i := 1401) (by decide +kernel)⟩
theorem lw_p51 : lw_okq (⟨"PennyMoreModel", "does", "(I)V"⟩, 76) := ⟨⟨by decide +kernel, by decide +kernel⟩, List.mem_of_getElem? (i := 1001) (by decide +kernel), List.mem_of_getElem? (i := 1404) (by decide +kernel), List.mem_of_getElem? (i := 1405) (by decide +kernel)⟩
theorem lw_p52 : lw_okq (⟨"PennyMoreModel", "keeps", "()V"⟩, 76) := ⟨⟨by decide +kernel, by decide +kernel⟩, List.mem_of_getElem? (i := 1001) (by decide +kernel), List.mem_of_getElem? (i := 1412) (by decide +kernel), List.mem_of_getElem? (i := 1413) (by decide +kernel)⟩
theorem lw_p53 : lw_okq (⟨"PennyMoreModel", "toTheEnd", "()V"⟩, 76) := ⟨⟨by decide +kernel, by decide +kernel⟩, List.mem_of_getElem? (i := 1001) (by decide +kernel), List.mem_of_getElem? (i := 1416) (by decide +kernel), List.mem_of_getElem? (i := 1417) (by decide +kernel)⟩
theorem lw_p54 : lw_okq (⟨"PennyMoreModel", "lays", "()V"⟩, 76) := ⟨⟨by decide +kernel, by decide +kernel⟩, List.mem_of_getElem? (i := 1001) (by decide +kernel), List.mem_of_getElem? (i := 1420) (by decide +kernel), List.mem_of_getElem? (i := 1421) (by decide +kernel)⟩
theorem lw_p55 : lw_okq (⟨"PennyMoreModel", "allGained", "()I"⟩, 76) := ⟨⟨by decide +kernel, by decide +kernel⟩, List.mem_of_getElem? (i := 1001) (by decide +kernel), List.mem_of_getElem? (i := 1428) (by decide +kernel), List.mem_of_getElem? (i := 1429) (by decide +kernel)⟩
theorem lw_p56 : lw_okq (⟨"PennyMoreModel", "stands", "(I)V"⟩, 76) := ⟨⟨by decide +kernel, by decide +kernel⟩, List.mem_of_getElem? (i := 1001) (by decide +kernel), List.mem_of_getElem? (i := 1439) (by decide +kernel), List.mem_of_getElem? (i := 1440) (by decide +kernel)⟩
theorem lw_p57 : lw_okq (⟨"PennyMoreModel", "othersGain", "(IZ)I"⟩, 76) := ⟨⟨by decide +kernel, by decide +kernel⟩, List.mem_of_getElem? (i := 1001) (by decide +kernel), List.mem_of_getElem? (i := 1468) (by decide +kernel), List.mem_of_getElem? (i := 1469) (by decide +kernel)⟩
theorem lw_p58 : lw_okq (⟨"PennyMoreModel", "slipsOn", "(IIJ)V"⟩, 76) := ⟨⟨by decide +kernel, by decide +kernel⟩, List.mem_of_getElem? (i := 1001) (by decide +kernel), List.mem_of_getElem? (i := 1481) (by decide +kernel), List.mem_of_getElem? (i := 1482) (by decide +kernel)⟩
theorem lw_p59 : lw_okq (⟨"PennyMoreModel", "keepsAt", "(I)V"⟩, 76) := ⟨⟨by decide +kernel, by decide +kernel⟩, List.mem_of_getElem? (i := 1001) (by decide +kernel), List.mem_of_getElem? (i := 1485) (by decide +kernel), List.mem_of_getElem? (i := 1486) (by decide +kernel)⟩
theorem lw_p60 : lw_okq (⟨"PennyMoreModel", "laysAt", "(I)V"⟩, 76) := ⟨⟨by decide +kernel, by decide +kernel⟩, List.mem_of_getElem? (i := 1001) (by decide +kernel), List.mem_of_getElem? (i := 1490) (by decide +kernel), List.mem_of_getElem? (i := 1491) (by decide +kernel)⟩
theorem lw_p61 : lw_okq (⟨"PennyMoreModel", "isTape", "(I)Z"⟩, 76) := ⟨⟨by decide +kernel, by decide +kernel⟩, List.mem_of_getElem? (i := 1001) (by decide +kernel), List.mem_of_getElem? (i := 1506) (by decide +kernel), List.mem_of_getElem? (i := 1507) (by decide +kernel)⟩
theorem lw_p62 : lw_okq (⟨"PennyMoreModel", "bids", "(II)I"⟩, 76) := ⟨⟨by decide +kernel, by decide +kernel⟩, List.mem_of_getElem? (i := 1001) (by decide +kernel), List.mem_of_getElem? (i := 1522) (by decide +kernel), List.mem_of_getElem? (i := 1523) (by decide +kernel)⟩
theorem lw_p63 : lw_okq (⟨"PennyMoreModel", "runs", "(I)V"⟩, 76) := ⟨⟨by decide +kernel, by decide +kernel⟩, List.mem_of_getElem? (i := 1001) (by decide +kernel), List.mem_of_getElem? (i := 1526) (by decide +kernel), List.mem_of_getElem? (i := 1527) (by decide +kernel)⟩
def lw_privs_4 : List (MethodName × Nat) := [(⟨"PennyMoreModel", "asBuyer", "(I)I"⟩, 76), (⟨"PennyMoreModel", "asFalling", "(I)I"⟩, 76), (⟨"PennyMoreModel", "comes", "()Z"⟩, 76), (⟨"PennyMoreModel", "does", "(I)V"⟩, 76), (⟨"PennyMoreModel", "keeps", "()V"⟩, 76), (⟨"PennyMoreModel", "toTheEnd", "()V"⟩, 76), (⟨"PennyMoreModel", "lays", "()V"⟩, 76), (⟨"PennyMoreModel", "allGained", "()I"⟩, 76), (⟨"PennyMoreModel", "stands", "(I)V"⟩, 76), (⟨"PennyMoreModel", "othersGain", "(IZ)I"⟩, 76), (⟨"PennyMoreModel", "slipsOn", "(IIJ)V"⟩, 76), (⟨"PennyMoreModel", "keepsAt", "(I)V"⟩, 76), (⟨"PennyMoreModel", "laysAt", "(I)V"⟩, 76), (⟨"PennyMoreModel", "isTape", "(I)Z"⟩, 76), (⟨"PennyMoreModel", "bids", "(II)I"⟩, 76), (⟨"PennyMoreModel", "runs", "(I)V"⟩, 76)]
theorem lw_r4 : ∀ q ∈ lw_privs_4, lw_okq q := List.forall_mem_cons.mpr ⟨lw_p48, List.forall_mem_cons.mpr ⟨lw_p49, List.forall_mem_cons.mpr ⟨lw_p50, List.forall_mem_cons.mpr ⟨lw_p51, List.forall_mem_cons.mpr ⟨lw_p52, List.forall_mem_cons.mpr ⟨lw_p53, List.forall_mem_cons.mpr ⟨lw_p54, List.forall_mem_cons.mpr ⟨lw_p55, List.forall_mem_cons.mpr ⟨lw_p56, List.forall_mem_cons.mpr ⟨lw_p57, List.forall_mem_cons.mpr ⟨lw_p58, List.forall_mem_cons.mpr ⟨lw_p59, List.forall_mem_cons.mpr ⟨lw_p60, List.forall_mem_cons.mpr ⟨lw_p61, List.forall_mem_cons.mpr ⟨lw_p62, List.forall_mem_cons.mpr ⟨lw_p63, fun _ h => absurd h List.not_mem_nil⟩⟩⟩⟩⟩⟩⟩⟩⟩⟩⟩⟩⟩⟩⟩⟩
theorem lw_p64 : lw_okq (⟨"PennyMoreModel", "waitsIn", "(II)I"⟩, 76) := ⟨⟨by decide +kernel, by decide +kernel⟩, List.mem_of_getElem? (i := 1001) (by decide +kernel), List.mem_of_getElem? (i := 1533) (by decide +kernel), List.mem_of_getElem? (i := 1534) (by decide +kernel)⟩
theorem lw_p65 : lw_okq (⟨"PennyMoreModel", "tellsIn", "(II)I"⟩, 76) := ⟨⟨by decide +kernel, by decide +kernel⟩, List.mem_of_getElem? (i := 1001) (by decide +kernel), List.mem_of_getElem? (i := 1537) (by decide +kernel), List.mem_of_getElem? (i := 1538) (by decide +kernel)⟩
def lw_privs_5 : List (MethodName × Nat) := [(⟨"PennyMoreModel", "waitsIn", "(II)I"⟩, 76), (⟨"PennyMoreModel", "tellsIn", "(II)I"⟩, 76)]
theorem lw_r5 : ∀ q ∈ lw_privs_5, lw_okq q := List.forall_mem_cons.mpr ⟨lw_p64, List.forall_mem_cons.mpr ⟨lw_p65, fun _ h => absurd h List.not_mem_nil⟩⟩
def lw_privs : List (MethodName × Nat) := lw_privs_1 ++ (lw_privs_2 ++ (lw_privs_3 ++ (lw_privs_4 ++ (lw_privs_5))))
def lw_tbl : List Cond := k2_sels lw_privs ++ tables_1
theorem lw_privs_ok : ∀ q ∈ lw_privs, lw_okq q := by
  show ∀ q ∈ lw_privs_1 ++ (lw_privs_2 ++ (lw_privs_3 ++ (lw_privs_4 ++ (lw_privs_5)))), lw_okq q
  exact List.forall_mem_append.mpr ⟨lw_r1, List.forall_mem_append.mpr ⟨lw_r2, List.forall_mem_append.mpr ⟨lw_r3, List.forall_mem_append.mpr ⟨lw_r4, lw_r5⟩⟩⟩⟩
/-! ===== names of the program: classes, fields, methods ===== -/
def RX0 : String := "PennyMore$Buyer"
def TX0 : u_T := fun k => match k with
  | 0 => ("PennyMore$Buyer", "kind", "I", true)
  | 1 => ("PennyMore$Buyer", "number", "I", true)
  | 2 => ("PennyMore$Buyer", "v", "I", true)
  | _ => ("PennyMore$Buyer", "worth", "I", true)
def tyX0 : Nat → FieldType := fun k => match k with
  | 0 => .int
  | 1 => .int
  | 2 => .int
  | _ => .int
theorem nmX0 : ∀ a, a < 4 → ∀ b, b < 4 → a ≠ b → (TX0 a).2.1 ≠ (TX0 b).2.1 := by decide +kernel
theorem tyX0_ok : ∀ k, k < 4 → parseFieldDescriptor (TX0 k).2.2.1 = some (tyX0 k) := by decide +kernel
def RX1 : String := "PennyMore$Day"
def TX1 : u_T := fun k => match k with
  | 0 => ("PennyMore$Day", "buyers", "[LPennyMore$Buyer;", true)
  | 1 => ("PennyMore$Day", "friends", "[I", true)
  | 2 => ("PennyMore$Day", "tells", "[I", true)
  | 3 => ("PennyMore$Day", "aways", "[I", true)
  | 4 => ("PennyMore$Day", "gained", "[I", true)
  | 5 => ("PennyMore$Day", "row", "[I", true)
  | 6 => ("PennyMore$Day", "film", "[I", true)
  | 7 => ("PennyMore$Day", "measures", "[I", true)
  | 8 => ("PennyMore$Day", "shop", "LPennyMore$Shop;", false)
  | 9 => ("PennyMore$Day", "fee", "I", false)
  | 10 => ("PennyMore$Day", "known", "I", false)
  | 11 => ("PennyMore$Day", "standing", "I", false)
  | 12 => ("PennyMore$Day", "price", "I", false)
  | 13 => ("PennyMore$Day", "loaves", "I", false)
  | 14 => ("PennyMore$Day", "till", "I", false)
  | 15 => ("PennyMore$Day", "turns", "I", false)
  | 16 => ("PennyMore$Day", "slips", "I", false)
  | 17 => ("PennyMore$Day", "filmed", "I", false)
  | 18 => ("PennyMore$Day", "value", "I", false)
  | _ => ("PennyMore$Day", "cost", "I", false)
def tyX1 : Nat → FieldType := fun k => match k with
  | 0 => .array (.object "PennyMore$Buyer")
  | 1 => .array .int
  | 2 => .array .int
  | 3 => .array .int
  | 4 => .array .int
  | 5 => .array .int
  | 6 => .array .int
  | 7 => .array .int
  | 8 => .object "PennyMore$Shop"
  | 9 => .int
  | 10 => .int
  | 11 => .int
  | 12 => .int
  | 13 => .int
  | 14 => .int
  | 15 => .int
  | 16 => .int
  | 17 => .int
  | 18 => .int
  | _ => .int
theorem nmX1 : ∀ a, a < 20 → ∀ b, b < 20 → a ≠ b → (TX1 a).2.1 ≠ (TX1 b).2.1 := by decide +kernel
theorem tyX1_ok : ∀ k, k < 20 → parseFieldDescriptor (TX1 k).2.2.1 = some (tyX1 k) := by decide +kernel
def RX2 : String := "PennyMore$Falling"
def TX2 : u_T := fun k => match k with
  | 0 => ("PennyMore$Buyer", "kind", "I", true)
  | 1 => ("PennyMore$Buyer", "number", "I", true)
  | 2 => ("PennyMore$Buyer", "v", "I", true)
  | _ => ("PennyMore$Buyer", "worth", "I", true)
def tyX2 : Nat → FieldType := fun k => match k with
  | 0 => .int
  | 1 => .int
  | 2 => .int
  | _ => .int
theorem nmX2 : ∀ a, a < 4 → ∀ b, b < 4 → a ≠ b → (TX2 a).2.1 ≠ (TX2 b).2.1 := by decide +kernel
theorem tyX2_ok : ∀ k, k < 4 → parseFieldDescriptor (TX2 k).2.2.1 = some (tyX2 k) := by decide +kernel
def RX3 : String := "PennyMore$Late"
def TX3 : u_T := fun k => match k with
  | 0 => ("PennyMore$Buyer", "kind", "I", true)
  | 1 => ("PennyMore$Buyer", "number", "I", true)
  | 2 => ("PennyMore$Buyer", "v", "I", true)
  | _ => ("PennyMore$Buyer", "worth", "I", true)
def tyX3 : Nat → FieldType := fun k => match k with
  | 0 => .int
  | 1 => .int
  | 2 => .int
  | _ => .int
theorem nmX3 : ∀ a, a < 4 → ∀ b, b < 4 → a ≠ b → (TX3 a).2.1 ≠ (TX3 b).2.1 := by decide +kernel
theorem tyX3_ok : ∀ k, k < 4 → parseFieldDescriptor (TX3 k).2.2.1 = some (tyX3 k) := by decide +kernel
def RX4 : String := "PennyMore$Plain"
def TX4 : u_T := fun k => match k with
  | 0 => ("PennyMore$Buyer", "kind", "I", true)
  | 1 => ("PennyMore$Buyer", "number", "I", true)
  | 2 => ("PennyMore$Buyer", "v", "I", true)
  | _ => ("PennyMore$Buyer", "worth", "I", true)
def tyX4 : Nat → FieldType := fun k => match k with
  | 0 => .int
  | 1 => .int
  | 2 => .int
  | _ => .int
theorem nmX4 : ∀ a, a < 4 → ∀ b, b < 4 → a ≠ b → (TX4 a).2.1 ≠ (TX4 b).2.1 := by decide +kernel
theorem tyX4_ok : ∀ k, k < 4 → parseFieldDescriptor (TX4 k).2.2.1 = some (tyX4 k) := by decide +kernel
def RX5 : String := "PennyMore$Reader"
def TX5 : u_T := fun k => match k with
  | 0 => ("PennyMore$Reader", "size", "I", false)
  | 1 => ("PennyMore$Reader", "text", "[I", true)
  | 2 => ("PennyMore$Reader", "at", "I", false)
  | _ => ("PennyMore$Reader", "shop", "LPennyMore$Shop;", false)
def tyX5 : Nat → FieldType := fun k => match k with
  | 0 => .int
  | 1 => .array .int
  | 2 => .int
  | _ => .object "PennyMore$Shop"
theorem nmX5 : ∀ a, a < 4 → ∀ b, b < 4 → a ≠ b → (TX5 a).2.1 ≠ (TX5 b).2.1 := by decide +kernel
theorem tyX5_ok : ∀ k, k < 4 → parseFieldDescriptor (TX5 k).2.2.1 = some (tyX5 k) := by decide +kernel
def RX6 : String := "PennyMore$Shop"
def TX6 : u_T := fun k => match k with
  | 0 => ("PennyMore$Shop", "up", "I", false)
  | 1 => ("PennyMore$Shop", "down", "I", false)
  | 2 => ("PennyMore$Shop", "away", "I", false)
  | 3 => ("PennyMore$Shop", "fee", "I", false)
  | 4 => ("PennyMore$Shop", "sorts", "[I", true)
  | 5 => ("PennyMore$Shop", "amounts", "[I", true)
  | 6 => ("PennyMore$Shop", "ends", "[I", true)
  | 7 => ("PennyMore$Shop", "code", "[I", true)
  | 8 => ("PennyMore$Shop", "clauses", "I", false)
  | _ => ("PennyMore$Shop", "coded", "I", false)
def tyX6 : Nat → FieldType := fun k => match k with
  | 0 => .int
  | 1 => .int
  | 2 => .int
  | 3 => .int
  | 4 => .array .int
  | 5 => .array .int
  | 6 => .array .int
  | 7 => .array .int
  | 8 => .int
  | _ => .int
theorem nmX6 : ∀ a, a < 10 → ∀ b, b < 10 → a ≠ b → (TX6 a).2.1 ≠ (TX6 b).2.1 := by decide +kernel
theorem tyX6_ok : ∀ k, k < 10 → parseFieldDescriptor (TX6 k).2.2.1 = some (tyX6 k) := by decide +kernel
def RX7 : String := "PennyMore$Sure"
def TX7 : u_T := fun k => match k with
  | 0 => ("PennyMore$Buyer", "kind", "I", true)
  | 1 => ("PennyMore$Buyer", "number", "I", true)
  | 2 => ("PennyMore$Buyer", "v", "I", true)
  | _ => ("PennyMore$Buyer", "worth", "I", true)
def tyX7 : Nat → FieldType := fun k => match k with
  | 0 => .int
  | 1 => .int
  | 2 => .int
  | _ => .int
theorem nmX7 : ∀ a, a < 4 → ∀ b, b < 4 → a ≠ b → (TX7 a).2.1 ≠ (TX7 b).2.1 := by decide +kernel
theorem tyX7_ok : ∀ k, k < 4 → parseFieldDescriptor (TX7 k).2.2.1 = some (tyX7 k) := by decide +kernel
def RX8 : String := "PennyMore$Tape"
def TX8 : u_T := fun k => match k with
  | 0 => ("PennyMore$Tape", "items", "[J", true)
  | 1 => ("PennyMore$Tape", "sort", "I", false)
  | _ => ("PennyMore$Tape", "size", "I", false)
def tyX8 : Nat → FieldType := fun k => match k with
  | 0 => .array .long
  | 1 => .int
  | _ => .int
theorem nmX8 : ∀ a, a < 3 → ∀ b, b < 3 → a ≠ b → (TX8 a).2.1 ≠ (TX8 b).2.1 := by decide +kernel
theorem tyX8_ok : ∀ k, k < 3 → parseFieldDescriptor (TX8 k).2.2.1 = some (tyX8 k) := by decide +kernel
def RX9 : String := "PennyMore$Told"
def TX9 : u_T := fun k => match k with
  | 0 => ("PennyMore$Buyer", "kind", "I", true)
  | 1 => ("PennyMore$Buyer", "number", "I", true)
  | 2 => ("PennyMore$Buyer", "v", "I", true)
  | _ => ("PennyMore$Buyer", "worth", "I", true)
def tyX9 : Nat → FieldType := fun k => match k with
  | 0 => .int
  | 1 => .int
  | 2 => .int
  | _ => .int
theorem nmX9 : ∀ a, a < 4 → ∀ b, b < 4 → a ≠ b → (TX9 a).2.1 ≠ (TX9 b).2.1 := by decide +kernel
theorem tyX9_ok : ∀ k, k < 4 → parseFieldDescriptor (TX9 k).2.2.1 = some (tyX9 k) := by decide +kernel
def RX10 : String := "PennyMore$Waiting"
def TX10 : u_T := fun k => match k with
  | 0 => ("PennyMore$Buyer", "kind", "I", true)
  | 1 => ("PennyMore$Buyer", "number", "I", true)
  | 2 => ("PennyMore$Buyer", "v", "I", true)
  | _ => ("PennyMore$Buyer", "worth", "I", true)
def tyX10 : Nat → FieldType := fun k => match k with
  | 0 => .int
  | 1 => .int
  | 2 => .int
  | _ => .int
theorem nmX10 : ∀ a, a < 4 → ∀ b, b < 4 → a ≠ b → (TX10 a).2.1 ≠ (TX10 b).2.1 := by decide +kernel
theorem tyX10_ok : ∀ k, k < 4 → parseFieldDescriptor (TX10 k).2.2.1 = some (tyX10 k) := by decide +kernel
def RX11 : String := "PennyMore"
def TX11 : u_T := fun k => match k with
  | 0 => ("PennyMore", "now", "LPennyMore$Day;", true)
  | 1 => ("PennyMore", "image", "LPennyMore$Day;", true)
  | 2 => ("PennyMore", "trial", "LPennyMore$Day;", true)
  | 3 => ("PennyMore", "base", "LPennyMore$Day;", true)
  | 4 => ("PennyMore", "shops", "[LPennyMore$Shop;", true)
  | 5 => ("PennyMore", "reader", "LPennyMore$Reader;", true)
  | 6 => ("PennyMore", "tapes", "[LPennyMore$Tape;", true)
  | 7 => ("PennyMore", "ran", "[I", true)
  | 8 => ("PennyMore", "lineup", "[I", true)
  | 9 => ("PennyMore", "bestLineup", "[I", true)
  | 10 => ("PennyMore", "values", "[I", true)
  | 11 => ("PennyMore", "shopsRead", "I", false)
  | _ => ("PennyMore", "imageTaken", "Z", false)
def tyX11 : Nat → FieldType := fun k => match k with
  | 0 => .object "PennyMore$Day"
  | 1 => .object "PennyMore$Day"
  | 2 => .object "PennyMore$Day"
  | 3 => .object "PennyMore$Day"
  | 4 => .array (.object "PennyMore$Shop")
  | 5 => .object "PennyMore$Reader"
  | 6 => .array (.object "PennyMore$Tape")
  | 7 => .array .int
  | 8 => .array .int
  | 9 => .array .int
  | 10 => .array .int
  | 11 => .int
  | _ => .boolean
theorem nmX11 : ∀ a, a < 13 → ∀ b, b < 13 → a ≠ b → (TX11 a).2.1 ≠ (TX11 b).2.1 := by decide +kernel
theorem tyX11_ok : ∀ k, k < 13 → parseFieldDescriptor (TX11 k).2.2.1 = some (tyX11 k) := by decide +kernel
def RX12 : String := "PennyMoreModel"
def TX12 : u_T := fun k => match k with
  | 0 => ("PennyMoreModel", "buyers", "I", false)
  | 1 => ("PennyMoreModel", "kind", "[I", true)
  | 2 => ("PennyMoreModel", "number", "[I", true)
  | 3 => ("PennyMoreModel", "worth", "[I", true)
  | 4 => ("PennyMoreModel", "friend", "[I", true)
  | 5 => ("PennyMoreModel", "aways", "[I", true)
  | 6 => ("PennyMoreModel", "gained", "[I", true)
  | 7 => ("PennyMoreModel", "tells", "[I", true)
  | 8 => ("PennyMoreModel", "inRow", "I", false)
  | 9 => ("PennyMoreModel", "row", "[I", true)
  | 10 => ("PennyMoreModel", "price", "I", false)
  | 11 => ("PennyMoreModel", "loaves", "I", false)
  | 12 => ("PennyMoreModel", "till", "I", false)
  | 13 => ("PennyMoreModel", "turns", "I", false)
  | 14 => ("PennyMoreModel", "odds", "I", false)
  | 15 => ("PennyMoreModel", "filmed", "I", false)
  | 16 => ("PennyMoreModel", "film", "[I", true)
  | 17 => ("PennyMoreModel", "shops", "I", false)
  | 18 => ("PennyMoreModel", "holding", "I", false)
  | 19 => ("PennyMoreModel", "clauses", "[I", true)
  | 20 => ("PennyMoreModel", "clauseWord", "[I", true)
  | 21 => ("PennyMoreModel", "clauseN", "[I", true)
  | 22 => ("PennyMoreModel", "clauseFrom", "[I", true)
  | 23 => ("PennyMoreModel", "clauseTo", "[I", true)
  | 24 => ("PennyMoreModel", "codes", "[I", true)
  | 25 => ("PennyMoreModel", "text", "[I", true)
  | 26 => ("PennyMoreModel", "written", "I", false)
  | 27 => ("PennyMoreModel", "feeFor", "I", false)
  | 28 => ("PennyMoreModel", "ran", "I", false)
  | 29 => ("PennyMoreModel", "trace", "[I", true)
  | 30 => ("PennyMoreModel", "tapeSort", "[I", true)
  | 31 => ("PennyMoreModel", "tapeSize", "[I", true)
  | 32 => ("PennyMoreModel", "items", "[J", true)
  | 33 => ("PennyMoreModel", "words", "[I", true)
  | 34 => ("PennyMoreModel", "wordLong", "[I", true)
  | 35 => ("PennyMoreModel", "letters", "[I", true)
  | 36 => ("PennyMoreModel", "at0", "I", false)
  | 37 => ("PennyMoreModel", "coded", "I", false)
  | 38 => ("PennyMoreModel", "waits", "[I", true)
  | 39 => ("PennyMoreModel", "waitMany", "I", false)
  | 40 => ("PennyMoreModel", "opened", "I", false)
  | 41 => ("PennyMoreModel", "stack", "[Z", true)
  | 42 => ("PennyMoreModel", "bought", "I", false)
  | 43 => ("PennyMoreModel", "refused", "I", false)
  | 44 => ("PennyMoreModel", "keptRow", "[I", true)
  | 45 => ("PennyMoreModel", "keptAways", "[I", true)
  | 46 => ("PennyMoreModel", "keptGained", "[I", true)
  | 47 => ("PennyMoreModel", "keptIn", "I", false)
  | 48 => ("PennyMoreModel", "keptPrice", "I", false)
  | 49 => ("PennyMoreModel", "keptLoaves", "I", false)
  | 50 => ("PennyMoreModel", "keptTill", "I", false)
  | 51 => ("PennyMoreModel", "keptTurns", "I", false)
  | 52 => ("PennyMoreModel", "sorted", "[I", true)
  | 53 => ("PennyMoreModel", "sureAbove", "J", false)
  | 54 => ("PennyMoreModel", "tooLong", "Z", false)
  | 55 => ("PennyMoreModel", "deepRow", "[I", true)
  | 56 => ("PennyMoreModel", "deepAways", "[I", true)
  | 57 => ("PennyMoreModel", "deepGained", "[I", true)
  | 58 => ("PennyMoreModel", "deepNumbers", "[I", true)
  | 59 => ("PennyMoreModel", "hasImage", "Z", false)
  | 60 => ("PennyMoreModel", "imageBuyers", "I", false)
  | 61 => ("PennyMoreModel", "imageOdds", "I", false)
  | 62 => ("PennyMoreModel", "imageFilmed", "I", false)
  | 63 => ("PennyMoreModel", "imageHolding", "I", false)
  | 64 => ("PennyMoreModel", "imageKind", "[I", true)
  | 65 => ("PennyMoreModel", "imageNumber", "[I", true)
  | 66 => ("PennyMoreModel", "imageWorth", "[I", true)
  | 67 => ("PennyMoreModel", "imageFriend", "[I", true)
  | 68 => ("PennyMoreModel", "imageAways", "[I", true)
  | 69 => ("PennyMoreModel", "imageGained", "[I", true)
  | 70 => ("PennyMoreModel", "imageTells", "[I", true)
  | 71 => ("PennyMoreModel", "imageRow", "[I", true)
  | 72 => ("PennyMoreModel", "imageNumbers", "[I", true)
  | 73 => ("PennyMoreModel", "imageFilm", "[I", true)
  | 74 => ("PennyMoreModel", "acting", "I", false)
  | _ => ("PennyMoreModel", "shifted", "[J", true)
def tyX12 : Nat → FieldType := fun k => match k with
  | 0 => .int
  | 1 => .array .int
  | 2 => .array .int
  | 3 => .array .int
  | 4 => .array .int
  | 5 => .array .int
  | 6 => .array .int
  | 7 => .array .int
  | 8 => .int
  | 9 => .array .int
  | 10 => .int
  | 11 => .int
  | 12 => .int
  | 13 => .int
  | 14 => .int
  | 15 => .int
  | 16 => .array .int
  | 17 => .int
  | 18 => .int
  | 19 => .array .int
  | 20 => .array .int
  | 21 => .array .int
  | 22 => .array .int
  | 23 => .array .int
  | 24 => .array .int
  | 25 => .array .int
  | 26 => .int
  | 27 => .int
  | 28 => .int
  | 29 => .array .int
  | 30 => .array .int
  | 31 => .array .int
  | 32 => .array .long
  | 33 => .array .int
  | 34 => .array .int
  | 35 => .array .int
  | 36 => .int
  | 37 => .int
  | 38 => .array .int
  | 39 => .int
  | 40 => .int
  | 41 => .array .boolean
  | 42 => .int
  | 43 => .int
  | 44 => .array .int
  | 45 => .array .int
  | 46 => .array .int
  | 47 => .int
  | 48 => .int
  | 49 => .int
  | 50 => .int
  | 51 => .int
  | 52 => .array .int
  | 53 => .long
  | 54 => .boolean
  | 55 => .array .int
  | 56 => .array .int
  | 57 => .array .int
  | 58 => .array .int
  | 59 => .boolean
  | 60 => .int
  | 61 => .int
  | 62 => .int
  | 63 => .int
  | 64 => .array .int
  | 65 => .array .int
  | 66 => .array .int
  | 67 => .array .int
  | 68 => .array .int
  | 69 => .array .int
  | 70 => .array .int
  | 71 => .array .int
  | 72 => .array .int
  | 73 => .array .int
  | 74 => .int
  | _ => .array .long
theorem nmX12 : ∀ a, a < 76 → ∀ b, b < 76 → a ≠ b → (TX12 a).2.1 ≠ (TX12 b).2.1 := by decide +kernel
theorem tyX12_ok : ∀ k, k < 76 → parseFieldDescriptor (TX12 k).2.2.1 = some (tyX12 k) := by decide +kernel
def RJ9 : String := "java/lang/Math"
def RJ0 : String := "java/lang/String"
def RJ1 : String := "java/lang/StringLatin1"
def RJ3 : String := "jdk/internal/util/Preconditions"
def RL : String := "PennyMoreLaw"
def mm_G : List Cond := lw_tbl.filter goodWord
theorem mm_gi {i : Nat} {w : Cond} (h : lw_tbl[i]? = some w) (hg : goodWord w = true) : w ∈ mm_G := List.mem_filter.mpr ⟨List.mem_of_getElem? h, hg⟩
theorem mm_ti_1 {i : Nat} {w : Cond} (h : tables_1_1[i]? = some w) : w ∈ lw_tbl := List.mem_append_right _ (List.mem_append_left _ (List.mem_of_getElem? h))
theorem mm_gi_1 {i : Nat} {w : Cond} (h : tables_1_1[i]? = some w) (hg : goodWord w = true) : w ∈ mm_G := List.mem_filter.mpr ⟨mm_ti_1 h, hg⟩
theorem mm_ti_2 {i : Nat} {w : Cond} (h : tables_1_2[i]? = some w) : w ∈ lw_tbl := List.mem_append_right _ (List.mem_append_right _ (List.mem_append_left _ (List.mem_of_getElem? h)))
theorem mm_gi_2 {i : Nat} {w : Cond} (h : tables_1_2[i]? = some w) (hg : goodWord w = true) : w ∈ mm_G := List.mem_filter.mpr ⟨mm_ti_2 h, hg⟩
theorem mm_ti_3 {i : Nat} {w : Cond} (h : tables_1_3[i]? = some w) : w ∈ lw_tbl := List.mem_append_right _ (List.mem_append_right _ (List.mem_append_right _ (List.mem_append_left _ (List.mem_of_getElem? h))))
theorem mm_gi_3 {i : Nat} {w : Cond} (h : tables_1_3[i]? = some w) (hg : goodWord w = true) : w ∈ mm_G := List.mem_filter.mpr ⟨mm_ti_3 h, hg⟩
theorem mm_ti_4 {i : Nat} {w : Cond} (h : tables_1_4[i]? = some w) : w ∈ lw_tbl := List.mem_append_right _ (List.mem_append_right _ (List.mem_append_right _ (List.mem_append_right _ (List.mem_append_left _ (List.mem_of_getElem? h)))))
theorem mm_gi_4 {i : Nat} {w : Cond} (h : tables_1_4[i]? = some w) (hg : goodWord w = true) : w ∈ mm_G := List.mem_filter.mpr ⟨mm_ti_4 h, hg⟩
theorem mm_ti_5 {i : Nat} {w : Cond} (h : tables_1_5[i]? = some w) : w ∈ lw_tbl := List.mem_append_right _ (List.mem_append_right _ (List.mem_append_right _ (List.mem_append_right _ (List.mem_append_right _ (List.mem_append_left _ (List.mem_of_getElem? h))))))
theorem mm_gi_5 {i : Nat} {w : Cond} (h : tables_1_5[i]? = some w) (hg : goodWord w = true) : w ∈ mm_G := List.mem_filter.mpr ⟨mm_ti_5 h, hg⟩
theorem mm_ti_6 {i : Nat} {w : Cond} (h : tables_1_6[i]? = some w) : w ∈ lw_tbl := List.mem_append_right _ (List.mem_append_right _ (List.mem_append_right _ (List.mem_append_right _ (List.mem_append_right _ (List.mem_append_right _ (List.mem_append_left _ (List.mem_of_getElem? h)))))))
theorem mm_gi_6 {i : Nat} {w : Cond} (h : tables_1_6[i]? = some w) (hg : goodWord w = true) : w ∈ mm_G := List.mem_filter.mpr ⟨mm_ti_6 h, hg⟩
theorem mm_ti_7 {i : Nat} {w : Cond} (h : tables_1_7[i]? = some w) : w ∈ lw_tbl := List.mem_append_right _ (List.mem_append_right _ (List.mem_append_right _ (List.mem_append_right _ (List.mem_append_right _ (List.mem_append_right _ (List.mem_append_right _ (List.mem_of_getElem? h)))))))
theorem mm_gi_7 {i : Nat} {w : Cond} (h : tables_1_7[i]? = some w) (hg : goodWord w = true) : w ∈ mm_G := List.mem_filter.mpr ⟨mm_ti_7 h, hg⟩
theorem mm_Ggood {ws : List Cond} (h : ∀ w ∈ ws, w ∈ mm_G) : GoodIn mm_G ws := fun w hw => ⟨h w hw, good_of_word (List.mem_filter.mp (h w hw)).2⟩
def mm_cn (c : Nat) : String := ["PennyMore$Buyer", "PennyMore$Day", "PennyMore$Falling", "PennyMore$Late", "PennyMore$Plain", "PennyMore$Reader", "PennyMore$Shop", "PennyMore$Sure", "PennyMore$Tape", "PennyMore$Told", "PennyMore$Waiting", "PennyMore", "PennyMoreModel", "java/lang/String", "java/lang/StringLatin1", "jdk/internal/util/Preconditions", "java/lang/Math", "PennyMoreLaw"].getD c ""
abbrev mm_mT : Type := MethodName × ByteArray × Nat × Option FieldType × Nat
def mm_mt_0 : List mm_mT := [(⟨"PennyMore$Buyer", "<init>", "(IIII)V"⟩, prog_2_method_1_code, 5, none, 0), (⟨"PennyMore$Buyer", "note", "([II)V"⟩, prog_2_method_2_code, 2, none, 0), (⟨"PennyMore$Buyer", "does", "(LPennyMore$Day;)I"⟩, prog_2_method_3_code, 2, some (Jvm.ClassFile.FieldType.int), 0), (⟨"PennyMore$Buyer", "bids", "(I[I)I"⟩, prog_2_method_4_code, 3, some (Jvm.ClassFile.FieldType.int), 0), (⟨"PennyMore$Buyer", "waits", "(I[I)I"⟩, prog_2_method_5_code, 3, some (Jvm.ClassFile.FieldType.int), 0), (⟨"PennyMore$Buyer", "tells", "(I[I)I"⟩, prog_2_method_6_code, 3, some (Jvm.ClassFile.FieldType.int), 0), (⟨"PennyMore$Day", "<init>", "(LPennyMore$Shop;)V"⟩, prog_3_method_1_code, 2, none, 1), (⟨"PennyMore$Day", "copyOf", "(LPennyMore$Day;)V"⟩, prog_3_method_2_code, 3, none, 1), (⟨"PennyMore$Day", "knows", "(I)Z"⟩, prog_3_method_3_code, 2, some (Jvm.ClassFile.FieldType.boolean), 1), (⟨"PennyMore$Day", "welcome", "(LPennyMore$Buyer;)V"⟩, prog_3_method_4_code, 4, none, 1), (⟨"PennyMore$Day", "open", "(LPennyMore$Shop;)V"⟩, prog_3_method_5_code, 2, none, 1), (⟨"PennyMore$Day", "head", "()I"⟩, prog_3_method_6_code, 1, some (Jvm.ClassFile.FieldType.int), 1), (⟨"PennyMore$Day", "placeOf", "(I)I"⟩, prog_3_method_7_code, 3, some (Jvm.ClassFile.FieldType.int), 1), (⟨"PennyMore$Day", "stand", "(I)V"⟩, prog_3_method_8_code, 2, none, 1), (⟨"PennyMore$Day", "leave", "(I)V"⟩, prog_3_method_9_code, 3, none, 1), (⟨"PennyMore$Day", "putAhead", "(I)V"⟩, prog_3_method_10_code, 3, none, 1), (⟨"PennyMore$Day", "mayGoAway", "(I)Z"⟩, prog_3_method_11_code, 2, some (Jvm.ClassFile.FieldType.boolean), 1), (⟨"PennyMore$Day", "friendStands", "(I)Z"⟩, prog_3_method_12_code, 2, some (Jvm.ClassFile.FieldType.boolean), 1), (⟨"PennyMore$Day", "gainOfYes", "()I"⟩, prog_3_method_13_code, 1, some (Jvm.ClassFile.FieldType.int), 1), (⟨"PennyMore$Day", "weigh", "(I)V"⟩, prog_3_method_14_code, 2, none, 1), (⟨"PennyMore$Day", "turnComes", "()Z"⟩, prog_3_method_15_code, 1, some (Jvm.ClassFile.FieldType.boolean), 1), (⟨"PennyMore$Day", "turn", "()I"⟩, prog_3_method_16_code, 3, some (Jvm.ClassFile.FieldType.int), 1), (⟨"PennyMore$Day", "carryOut", "(I)V"⟩, prog_3_method_17_code, 3, none, 1), (⟨"PennyMore$Day", "toEnd", "()V"⟩, prog_3_method_18_code, 2, none, 1), (⟨"PennyMore$Day", "gainedByAll", "()I"⟩, prog_3_method_19_code, 3, some (Jvm.ClassFile.FieldType.int), 1), (⟨"PennyMore$Falling", "<init>", "(IIII)V"⟩, prog_4_method_1_code, 5, none, 2), (⟨"PennyMore$Falling", "does", "(LPennyMore$Day;)I"⟩, prog_4_method_2_code, 2, some (Jvm.ClassFile.FieldType.int), 2), (⟨"PennyMore$Falling", "tells", "(I[I)I"⟩, prog_4_method_3_code, 3, some (Jvm.ClassFile.FieldType.int), 2), (⟨"PennyMore$Late", "<init>", "(IIII)V"⟩, prog_5_method_1_code, 5, none, 3), (⟨"PennyMore$Late", "does", "(LPennyMore$Day;)I"⟩, prog_5_method_2_code, 2, some (Jvm.ClassFile.FieldType.int), 3), (⟨"PennyMore$Late", "tells", "(I[I)I"⟩, prog_5_method_3_code, 3, some (Jvm.ClassFile.FieldType.int), 3), (⟨"PennyMore$Plain", "<init>", "(IIII)V"⟩, prog_6_method_1_code, 5, none, 4), (⟨"PennyMore$Plain", "does", "(LPennyMore$Day;)I"⟩, prog_6_method_2_code, 2, some (Jvm.ClassFile.FieldType.int), 4), (⟨"PennyMore$Plain", "waits", "(I[I)I"⟩, prog_6_method_3_code, 3, some (Jvm.ClassFile.FieldType.int), 4), (⟨"PennyMore$Reader", "<init>", "()V"⟩, prog_7_method_1_code, 1, none, 5), (⟨"PennyMore$Reader", "add", "(I)Z"⟩, prog_7_method_2_code, 2, some (Jvm.ClassFile.FieldType.boolean), 5), (⟨"PennyMore$Reader", "empty", "()V"⟩, prog_7_method_3_code, 1, none, 5), (⟨"PennyMore$Reader", "readInto", "(LPennyMore$Shop;)I"⟩, prog_7_method_4_code, 3, some (Jvm.ClassFile.FieldType.int), 5), (⟨"PennyMore$Reader", "next", "()I"⟩, prog_7_method_5_code, 1, some (Jvm.ClassFile.FieldType.int), 5), (⟨"PennyMore$Reader", "word", "(Ljava/lang/String;)Z"⟩, prog_7_method_6_code, 3, some (Jvm.ClassFile.FieldType.boolean), 5)]
def mm_mt_1 : List mm_mT := [(⟨"PennyMore$Reader", "wordOf", "(I)Ljava/lang/String;"⟩, prog_7_method_7_code, 1, some ((Jvm.ClassFile.FieldType.object "java/lang/String")), 5), (⟨"PennyMore$Reader", "clause", "()Z"⟩, prog_7_method_8_code, 4, some (Jvm.ClassFile.FieldType.boolean), 5), (⟨"PennyMore$Reader", "either", "(I)Z"⟩, prog_7_method_9_code, 2, some (Jvm.ClassFile.FieldType.boolean), 5), (⟨"PennyMore$Reader", "both", "(I)Z"⟩, prog_7_method_10_code, 2, some (Jvm.ClassFile.FieldType.boolean), 5), (⟨"PennyMore$Reader", "factor", "(I)Z"⟩, prog_7_method_11_code, 3, some (Jvm.ClassFile.FieldType.boolean), 5), (⟨"PennyMore$Reader", "test", "()Z"⟩, prog_7_method_12_code, 4, some (Jvm.ClassFile.FieldType.boolean), 5), (⟨"PennyMore$Reader", "number", "()I"⟩, prog_7_method_13_code, 3, some (Jvm.ClassFile.FieldType.int), 5), (⟨"PennyMore$Shop", "<init>", "()V"⟩, prog_8_method_1_code, 1, none, 6), (⟨"PennyMore$Shop", "clear", "()V"⟩, prog_8_method_2_code, 1, none, 6), (⟨"PennyMore$Shop", "putCode", "(I)V"⟩, prog_8_method_3_code, 2, none, 6), (⟨"PennyMore$Shop", "codeOf", "(III)I"⟩, prog_8_method_4_code, 3, some (Jvm.ClassFile.FieldType.int), 6), (⟨"PennyMore$Shop", "putClause", "(II)V"⟩, prog_8_method_5_code, 3, none, 6), (⟨"PennyMore$Shop", "sumOf", "(I[I)I"⟩, prog_8_method_6_code, 6, some (Jvm.ClassFile.FieldType.int), 6), (⟨"PennyMore$Shop", "holds", "(II[I)Z"⟩, prog_8_method_7_code, 6, some (Jvm.ClassFile.FieldType.boolean), 6), (⟨"PennyMore$Shop", "passes", "(I[I)Z"⟩, prog_8_method_8_code, 5, some (Jvm.ClassFile.FieldType.boolean), 6), (⟨"PennyMore$Sure", "<init>", "(IIII)V"⟩, prog_9_method_1_code, 5, none, 7), (⟨"PennyMore$Sure", "does", "(LPennyMore$Day;)I"⟩, prog_9_method_2_code, 2, some (Jvm.ClassFile.FieldType.int), 7), (⟨"PennyMore$Sure", "bids", "(I[I)I"⟩, prog_9_method_3_code, 3, some (Jvm.ClassFile.FieldType.int), 7), (⟨"PennyMore$Sure", "waits", "(I[I)I"⟩, prog_9_method_4_code, 3, some (Jvm.ClassFile.FieldType.int), 7), (⟨"PennyMore$Tape", "<init>", "()V"⟩, prog_10_method_1_code, 1, none, 8), (⟨"PennyMore$Tape", "become", "(II)V"⟩, prog_10_method_2_code, 4, none, 8), (⟨"PennyMore$Tape", "holdsNothing", "()Z"⟩, prog_10_method_3_code, 1, some (Jvm.ClassFile.FieldType.boolean), 8), (⟨"PennyMore$Tape", "hasPlace", "(I)Z"⟩, prog_10_method_4_code, 2, some (Jvm.ClassFile.FieldType.boolean), 8), (⟨"PennyMore$Tape", "hasStretch", "(II)Z"⟩, prog_10_method_5_code, 3, some (Jvm.ClassFile.FieldType.boolean), 8), (⟨"PennyMore$Tape", "narrowed", "(J)J"⟩, prog_10_method_6_code, 3, some (Jvm.ClassFile.FieldType.long), 8), (⟨"PennyMore$Told", "<init>", "(IIII)V"⟩, prog_11_method_1_code, 5, none, 9), (⟨"PennyMore$Told", "does", "(LPennyMore$Day;)I"⟩, prog_11_method_2_code, 4, some (Jvm.ClassFile.FieldType.int), 9), (⟨"PennyMore$Told", "waits", "(I[I)I"⟩, prog_11_method_3_code, 3, some (Jvm.ClassFile.FieldType.int), 9), (⟨"PennyMore$Told", "bids", "(I[I)I"⟩, prog_11_method_4_code, 3, some (Jvm.ClassFile.FieldType.int), 9), (⟨"PennyMore$Waiting", "<init>", "(IIII)V"⟩, prog_12_method_1_code, 5, none, 10), (⟨"PennyMore$Waiting", "does", "(LPennyMore$Day;)I"⟩, prog_12_method_2_code, 2, some (Jvm.ClassFile.FieldType.int), 10), (⟨"PennyMore$Waiting", "bids", "(I[I)I"⟩, prog_12_method_3_code, 3, some (Jvm.ClassFile.FieldType.int), 10), (⟨"PennyMore", "<init>", "()V"⟩, prog_1_method_1_code, 3, none, 11), (⟨"PennyMore", "buyer", "(III)I"⟩, prog_1_method_2_code, 5, some (Jvm.ClassFile.FieldType.int), 11), (⟨"PennyMore", "of", "(II)I"⟩, prog_1_method_3_code, 4, some (Jvm.ClassFile.FieldType.int), 11), (⟨"PennyMore", "gained", "(I)I"⟩, prog_1_method_4_code, 2, some (Jvm.ClassFile.FieldType.int), 11), (⟨"PennyMore", "friend", "(II)I"⟩, prog_1_method_5_code, 5, some (Jvm.ClassFile.FieldType.int), 11), (⟨"PennyMore", "row", "(III)I"⟩, prog_1_method_6_code, 6, some (Jvm.ClassFile.FieldType.int), 11), (⟨"PennyMore", "back", "(I)I"⟩, prog_1_method_7_code, 2, some (Jvm.ClassFile.FieldType.int), 11), (⟨"PennyMore", "set", "(II)I"⟩, prog_1_method_8_code, 4, some (Jvm.ClassFile.FieldType.int), 11)]
def mm_mt_2 : List mm_mT := [(⟨"PennyMore", "feed", "(I)I"⟩, prog_1_method_9_code, 2, some (Jvm.ClassFile.FieldType.int), 11), (⟨"PennyMore", "shop", "()I"⟩, prog_1_method_10_code, 4, some (Jvm.ClassFile.FieldType.int), 11), (⟨"PennyMore", "told", "(I)I"⟩, prog_1_method_11_code, 2, some (Jvm.ClassFile.FieldType.int), 11), (⟨"PennyMore", "would", "(I)I"⟩, prog_1_method_12_code, 2, some (Jvm.ClassFile.FieldType.int), 11), (⟨"PennyMore", "go", "()I"⟩, prog_1_method_13_code, 1, some (Jvm.ClassFile.FieldType.int), 11), (⟨"PennyMore", "run", "(I)I"⟩, prog_1_method_14_code, 2, some (Jvm.ClassFile.FieldType.int), 11), (⟨"PennyMore", "first", "(I)I"⟩, prog_1_method_15_code, 7, some (Jvm.ClassFile.FieldType.int), 11), (⟨"PennyMore", "order", "(II)I"⟩, prog_1_method_16_code, 4, some (Jvm.ClassFile.FieldType.int), 11), (⟨"PennyMore", "letBy", "(I)I"⟩, prog_1_method_17_code, 5, some (Jvm.ClassFile.FieldType.int), 11), (⟨"PennyMore", "lot", "(I)J"⟩, prog_1_method_18_code, 8, some (Jvm.ClassFile.FieldType.long), 11), (⟨"PennyMore", "fee", "()I"⟩, prog_1_method_19_code, 2, some (Jvm.ClassFile.FieldType.int), 11), (⟨"PennyMore", "onePrice", "(I)I"⟩, prog_1_method_20_code, 6, some (Jvm.ClassFile.FieldType.int), 11), (⟨"PennyMore", "aunt", "(I)I"⟩, prog_1_method_21_code, 6, some (Jvm.ClassFile.FieldType.int), 11), (⟨"PennyMore", "slips", "(I)I"⟩, prog_1_method_22_code, 3, some (Jvm.ClassFile.FieldType.int), 11), (⟨"PennyMore", "sure", "(II)J"⟩, prog_1_method_23_code, 12, some (Jvm.ClassFile.FieldType.long), 11), (⟨"PennyMore", "film", "(I)I"⟩, prog_1_method_24_code, 2, some (Jvm.ClassFile.FieldType.int), 11), (⟨"PennyMore", "off", "()I"⟩, prog_1_method_25_code, 2, some (Jvm.ClassFile.FieldType.int), 11), (⟨"PennyMore", "judge", "(II)I"⟩, prog_1_method_26_code, 5, some (Jvm.ClassFile.FieldType.int), 11), (⟨"PennyMore", "image", "()I"⟩, prog_1_method_27_code, 1, some (Jvm.ClassFile.FieldType.int), 11), (⟨"PennyMore", "undo", "()I"⟩, prog_1_method_28_code, 1, some (Jvm.ClassFile.FieldType.int), 11), (⟨"PennyMore", "act", "(III)I"⟩, prog_1_method_29_code, 4, some (Jvm.ClassFile.FieldType.int), 11), (⟨"PennyMore", "trace", "(I)I"⟩, prog_1_method_30_code, 2, some (Jvm.ClassFile.FieldType.int), 11), (⟨"PennyMore", "taken", "(II)I"⟩, prog_1_method_31_code, 4, some (Jvm.ClassFile.FieldType.int), 11), (⟨"PennyMore", "count", "(I)I"⟩, prog_1_method_32_code, 2, some (Jvm.ClassFile.FieldType.int), 11), (⟨"PennyMore", "tape", "(III)I"⟩, prog_1_method_33_code, 4, some (Jvm.ClassFile.FieldType.int), 11), (⟨"PennyMore", "item", "(IIJ)I"⟩, prog_1_method_34_code, 6, some (Jvm.ClassFile.FieldType.int), 11), (⟨"PennyMore", "read", "(II)J"⟩, prog_1_method_35_code, 3, some (Jvm.ClassFile.FieldType.long), 11), (⟨"PennyMore", "shift", "(IIIII)I"⟩, prog_1_method_36_code, 8, some (Jvm.ClassFile.FieldType.int), 11), (⟨"PennyMore", "orAbsent", "(I)I"⟩, prog_1_method_37_code, 1, some (Jvm.ClassFile.FieldType.int), 11), (⟨"PennyMore", "isTape", "(I)Z"⟩, prog_1_method_38_code, 1, some (Jvm.ClassFile.FieldType.boolean), 11), (⟨"PennyMore", "rowDigits", "(I)I"⟩, prog_1_method_39_code, 3, some (Jvm.ClassFile.FieldType.int), 11), (⟨"PennyMore", "newBuyer", "(IIII)LPennyMore$Buyer;"⟩, prog_1_method_40_code, 4, some ((Jvm.ClassFile.FieldType.object "PennyMore$Buyer")), 11), (⟨"PennyMore", "isOneOf", "(LPennyMore$Buyer;I)Z"⟩, prog_1_method_41_code, 2, some (Jvm.ClassFile.FieldType.boolean), 11), (⟨"PennyMore", "runTrial", "()V"⟩, prog_1_method_42_code, 1, none, 11), (⟨"PennyMore", "whoGetsLoaves", "()I"⟩, prog_1_method_43_code, 4, some (Jvm.ClassFile.FieldType.int), 11), (⟨"PennyMore", "nobodyRefuses", "(I)Z"⟩, prog_1_method_44_code, 3, some (Jvm.ClassFile.FieldType.boolean), 11), (⟨"PennyMore", "gainByFirst", "(III)I"⟩, prog_1_method_45_code, 4, some (Jvm.ClassFile.FieldType.int), 11), (⟨"PennyMore", "bothLikeSwap", "(I)Z"⟩, prog_1_method_46_code, 6, some (Jvm.ClassFile.FieldType.boolean), 11), (⟨"PennyMore", "takersAt", "(I)I"⟩, prog_1_method_47_code, 4, some (Jvm.ClassFile.FieldType.int), 11), (⟨"PennyMore", "findBestLineup", "(I)I"⟩, prog_1_method_48_code, 6, some (Jvm.ClassFile.FieldType.int), 11)]
def mm_mt_3 : List mm_mT := [(⟨"PennyMore", "startLineups", "()V"⟩, prog_1_method_49_code, 3, none, 11), (⟨"PennyMore", "standAsLineup", "()V"⟩, prog_1_method_50_code, 1, none, 11), (⟨"PennyMore", "nextLineup", "()Z"⟩, prog_1_method_51_code, 5, some (Jvm.ClassFile.FieldType.boolean), 11), (⟨"PennyMore", "swapInLineup", "(II)V"⟩, prog_1_method_52_code, 4, none, 11), (⟨"PennyMore", "weightOf", "(I)J"⟩, prog_1_method_53_code, 5, some (Jvm.ClassFile.FieldType.long), 11), (⟨"PennyMore", "whoSaysYes", "(I)I"⟩, prog_1_method_54_code, 7, some (Jvm.ClassFile.FieldType.int), 11), (⟨"PennyMore", "lowestTerms", "(JJI)J"⟩, prog_1_method_55_code, 12, some (Jvm.ClassFile.FieldType.long), 11), (⟨"PennyMoreModel", "<init>", "()V"⟩, prog_14_method_1_code, 1, none, 12), (⟨"PennyMoreModel", "in", "(III)Z"⟩, prog_14_method_3_code, 3, some (Jvm.ClassFile.FieldType.boolean), 12), (⟨"PennyMoreModel", "isBuyer", "(I)Z"⟩, prog_14_method_4_code, 2, some (Jvm.ClassFile.FieldType.boolean), 12), (⟨"PennyMoreModel", "placeOf", "(I)I"⟩, prog_14_method_5_code, 3, some (Jvm.ClassFile.FieldType.int), 12), (⟨"PennyMoreModel", "buyer", "(III)I"⟩, prog_14_method_6_code, 5, some (Jvm.ClassFile.FieldType.int), 12), (⟨"PennyMoreModel", "of", "(II)I"⟩, prog_14_method_7_code, 3, some (Jvm.ClassFile.FieldType.int), 12), (⟨"PennyMoreModel", "gained", "(I)I"⟩, prog_14_method_8_code, 2, some (Jvm.ClassFile.FieldType.int), 12), (⟨"PennyMoreModel", "friend", "(II)I"⟩, prog_14_method_9_code, 4, some (Jvm.ClassFile.FieldType.int), 12), (⟨"PennyMoreModel", "row", "(III)I"⟩, prog_14_method_10_code, 5, some (Jvm.ClassFile.FieldType.int), 12), (⟨"PennyMoreModel", "back", "(I)I"⟩, prog_14_method_11_code, 2, some (Jvm.ClassFile.FieldType.int), 12), (⟨"PennyMoreModel", "set", "(II)I"⟩, prog_14_method_12_code, 4, some (Jvm.ClassFile.FieldType.int), 12), (⟨"PennyMoreModel", "feed", "(I)I"⟩, prog_14_method_13_code, 2, some (Jvm.ClassFile.FieldType.int), 12), (⟨"PennyMoreModel", "sign", "()I"⟩, prog_14_method_14_code, 1, some (Jvm.ClassFile.FieldType.int), 12), (⟨"PennyMoreModel", "isFigure", "(I)Z"⟩, prog_14_method_15_code, 1, some (Jvm.ClassFile.FieldType.boolean), 12), (⟨"PennyMoreModel", "goesBy", "(I)Z"⟩, prog_14_method_16_code, 2, some (Jvm.ClassFile.FieldType.boolean), 12), (⟨"PennyMoreModel", "numberRead", "()I"⟩, prog_14_method_17_code, 2, some (Jvm.ClassFile.FieldType.int), 12), (⟨"PennyMoreModel", "wordRead", "()I"⟩, prog_14_method_18_code, 3, some (Jvm.ClassFile.FieldType.int), 12), (⟨"PennyMoreModel", "codes", "(I)V"⟩, prog_14_method_19_code, 2, none, 12), (⟨"PennyMoreModel", "testRead", "()Z"⟩, prog_14_method_20_code, 4, some (Jvm.ClassFile.FieldType.boolean), 12), (⟨"PennyMoreModel", "noMoreNots", "()V"⟩, prog_14_method_21_code, 1, none, 12), (⟨"PennyMoreModel", "unwinds", "(I)V"⟩, prog_14_method_22_code, 2, none, 12), (⟨"PennyMoreModel", "opens", "(I)Z"⟩, prog_14_method_23_code, 2, some (Jvm.ClassFile.FieldType.boolean), 12), (⟨"PennyMoreModel", "eRead", "()Z"⟩, prog_14_method_24_code, 3, some (Jvm.ClassFile.FieldType.boolean), 12), (⟨"PennyMoreModel", "clauseRead", "()Z"⟩, prog_14_method_25_code, 4, some (Jvm.ClassFile.FieldType.boolean), 12), (⟨"PennyMoreModel", "shopRead", "()I"⟩, prog_14_method_26_code, 1, some (Jvm.ClassFile.FieldType.int), 12), (⟨"PennyMoreModel", "shop", "()I"⟩, prog_14_method_27_code, 3, some (Jvm.ClassFile.FieldType.int), 12), (⟨"PennyMoreModel", "testOf", "(II)I"⟩, prog_14_method_28_code, 3, some (Jvm.ClassFile.FieldType.int), 12), (⟨"PennyMoreModel", "doesHold", "(II)Z"⟩, prog_14_method_29_code, 8, some (Jvm.ClassFile.FieldType.boolean), 12), (⟨"PennyMoreModel", "sumOf", "(II)I"⟩, prog_14_method_30_code, 5, some (Jvm.ClassFile.FieldType.int), 12), (⟨"PennyMoreModel", "valueOf", "(I)I"⟩, prog_14_method_31_code, 2, some (Jvm.ClassFile.FieldType.int), 12), (⟨"PennyMoreModel", "costOf", "(I)I"⟩, prog_14_method_32_code, 2, some (Jvm.ClassFile.FieldType.int), 12), (⟨"PennyMoreModel", "lawOf", "(I)I"⟩, prog_14_method_33_code, 4, some (Jvm.ClassFile.FieldType.int), 12), (⟨"PennyMoreModel", "told", "(I)I"⟩, prog_14_method_34_code, 2, some (Jvm.ClassFile.FieldType.int), 12)]
def mm_mt_4 : List mm_mT := [(⟨"PennyMoreModel", "mayAway", "(I)Z"⟩, prog_14_method_35_code, 2, some (Jvm.ClassFile.FieldType.boolean), 12), (⟨"PennyMoreModel", "gainOf", "(I)I"⟩, prog_14_method_36_code, 2, some (Jvm.ClassFile.FieldType.int), 12), (⟨"PennyMoreModel", "asBuyer", "(I)I"⟩, prog_14_method_37_code, 2, some (Jvm.ClassFile.FieldType.int), 12), (⟨"PennyMoreModel", "asWaiting", "(I)I"⟩, prog_14_method_38_code, 2, some (Jvm.ClassFile.FieldType.int), 12), (⟨"PennyMoreModel", "asFalling", "(I)I"⟩, prog_14_method_39_code, 3, some (Jvm.ClassFile.FieldType.int), 12), (⟨"PennyMoreModel", "asPlain", "(I)I"⟩, prog_14_method_40_code, 2, some (Jvm.ClassFile.FieldType.int), 12), (⟨"PennyMoreModel", "wouldBe", "(I)I"⟩, prog_14_method_41_code, 4, some (Jvm.ClassFile.FieldType.int), 12), (⟨"PennyMoreModel", "would", "(I)I"⟩, prog_14_method_42_code, 2, some (Jvm.ClassFile.FieldType.int), 12), (⟨"PennyMoreModel", "comes", "()Z"⟩, prog_14_method_43_code, 1, some (Jvm.ClassFile.FieldType.boolean), 12), (⟨"PennyMoreModel", "does", "(I)V"⟩, prog_14_method_44_code, 9, none, 12), (⟨"PennyMoreModel", "go", "()I"⟩, prog_14_method_45_code, 2, some (Jvm.ClassFile.FieldType.int), 12), (⟨"PennyMoreModel", "keeps", "()V"⟩, prog_14_method_46_code, 2, none, 12), (⟨"PennyMoreModel", "lays", "()V"⟩, prog_14_method_47_code, 2, none, 12), (⟨"PennyMoreModel", "toTheEnd", "()V"⟩, prog_14_method_48_code, 1, none, 12), (⟨"PennyMoreModel", "allGained", "()I"⟩, prog_14_method_49_code, 3, some (Jvm.ClassFile.FieldType.int), 12), (⟨"PennyMoreModel", "run", "(I)I"⟩, prog_14_method_50_code, 4, some (Jvm.ClassFile.FieldType.int), 12), (⟨"PennyMoreModel", "first", "(I)I"⟩, prog_14_method_51_code, 7, some (Jvm.ClassFile.FieldType.int), 12), (⟨"PennyMoreModel", "orders", "(I)I"⟩, prog_14_method_52_code, 3, some (Jvm.ClassFile.FieldType.int), 12), (⟨"PennyMoreModel", "stands", "(I)V"⟩, prog_14_method_53_code, 8, none, 12), (⟨"PennyMoreModel", "order", "(II)I"⟩, prog_14_method_54_code, 7, some (Jvm.ClassFile.FieldType.int), 12), (⟨"PennyMoreModel", "letBy", "(I)I"⟩, prog_14_method_55_code, 11, some (Jvm.ClassFile.FieldType.int), 12), (⟨"PennyMoreModel", "lowest", "(JJI)J"⟩, prog_14_method_56_code, 11, some (Jvm.ClassFile.FieldType.long), 12), (⟨"PennyMoreModel", "lot", "(I)J"⟩, prog_14_method_57_code, 5, some (Jvm.ClassFile.FieldType.long), 12), (⟨"PennyMoreModel", "fee", "()I"⟩, prog_14_method_58_code, 3, some (Jvm.ClassFile.FieldType.int), 12), (⟨"PennyMoreModel", "onePrice", "(I)I"⟩, prog_14_method_59_code, 7, some (Jvm.ClassFile.FieldType.int), 12), (⟨"PennyMoreModel", "othersGain", "(IZ)I"⟩, prog_14_method_60_code, 5, some (Jvm.ClassFile.FieldType.int), 12), (⟨"PennyMoreModel", "aunt", "(I)I"⟩, prog_14_method_61_code, 2, some (Jvm.ClassFile.FieldType.int), 12), (⟨"PennyMoreModel", "slips", "(I)I"⟩, prog_14_method_62_code, 3, some (Jvm.ClassFile.FieldType.int), 12), (⟨"PennyMoreModel", "keepsAt", "(I)V"⟩, prog_14_method_63_code, 3, none, 12), (⟨"PennyMoreModel", "laysAt", "(I)V"⟩, prog_14_method_64_code, 3, none, 12), (⟨"PennyMoreModel", "slipsOn", "(IIJ)V"⟩, prog_14_method_65_code, 8, none, 12), (⟨"PennyMoreModel", "sure", "(II)J"⟩, prog_14_method_66_code, 3, some (Jvm.ClassFile.FieldType.long), 12), (⟨"PennyMoreModel", "film", "(I)I"⟩, prog_14_method_67_code, 2, some (Jvm.ClassFile.FieldType.int), 12), (⟨"PennyMoreModel", "off", "()I"⟩, prog_14_method_68_code, 4, some (Jvm.ClassFile.FieldType.int), 12), (⟨"PennyMoreModel", "isTape", "(I)Z"⟩, prog_14_method_69_code, 2, some (Jvm.ClassFile.FieldType.boolean), 12), (⟨"PennyMoreModel", "judge", "(II)I"⟩, prog_14_method_70_code, 5, some (Jvm.ClassFile.FieldType.int), 12), (⟨"PennyMoreModel", "image", "()I"⟩, prog_14_method_71_code, 2, some (Jvm.ClassFile.FieldType.int), 12), (⟨"PennyMoreModel", "undo", "()I"⟩, prog_14_method_72_code, 2, some (Jvm.ClassFile.FieldType.int), 12), (⟨"PennyMoreModel", "runs", "(I)V"⟩, prog_14_method_73_code, 2, none, 12), (⟨"PennyMoreModel", "above", "(I)I"⟩, prog_14_method_74_code, 1, some (Jvm.ClassFile.FieldType.int), 12)]
def mm_mt_5 : List mm_mT := [(⟨"PennyMoreModel", "bids", "(II)I"⟩, prog_14_method_75_code, 3, some (Jvm.ClassFile.FieldType.int), 12), (⟨"PennyMoreModel", "waitsIn", "(II)I"⟩, prog_14_method_76_code, 4, some (Jvm.ClassFile.FieldType.int), 12), (⟨"PennyMoreModel", "tellsIn", "(II)I"⟩, prog_14_method_77_code, 4, some (Jvm.ClassFile.FieldType.int), 12), (⟨"PennyMoreModel", "act", "(III)I"⟩, prog_14_method_78_code, 4, some (Jvm.ClassFile.FieldType.int), 12), (⟨"PennyMoreModel", "trace", "(I)I"⟩, prog_14_method_79_code, 2, some (Jvm.ClassFile.FieldType.int), 12), (⟨"PennyMoreModel", "taken", "(II)I"⟩, prog_14_method_80_code, 4, some (Jvm.ClassFile.FieldType.int), 12), (⟨"PennyMoreModel", "count", "(I)I"⟩, prog_14_method_81_code, 2, some (Jvm.ClassFile.FieldType.int), 12), (⟨"PennyMoreModel", "tape", "(III)I"⟩, prog_14_method_82_code, 5, some (Jvm.ClassFile.FieldType.int), 12), (⟨"PennyMoreModel", "cut", "(IJ)J"⟩, prog_14_method_83_code, 3, some (Jvm.ClassFile.FieldType.long), 12), (⟨"PennyMoreModel", "item", "(IIJ)I"⟩, prog_14_method_84_code, 5, some (Jvm.ClassFile.FieldType.int), 12), (⟨"PennyMoreModel", "read", "(II)J"⟩, prog_14_method_85_code, 3, some (Jvm.ClassFile.FieldType.long), 12), (⟨"PennyMoreModel", "shift", "(IIIII)I"⟩, prog_14_method_86_code, 7, some (Jvm.ClassFile.FieldType.int), 12), (⟨"java/lang/String", "length", "()I"⟩, prog_17_method_54_code, 1, some (Jvm.ClassFile.FieldType.int), 13), (⟨"java/lang/String", "isEmpty", "()Z"⟩, prog_17_method_55_code, 1, some (Jvm.ClassFile.FieldType.boolean), 13), (⟨"java/lang/String", "charAt", "(I)C"⟩, prog_17_method_56_code, 2, some (Jvm.ClassFile.FieldType.char), 13), (⟨"java/lang/String", "indexOf", "(I)I"⟩, prog_17_method_79_code, 2, some (Jvm.ClassFile.FieldType.int), 13), (⟨"java/lang/String", "indexOf", "(II)I"⟩, prog_17_method_80_code, 3, some (Jvm.ClassFile.FieldType.int), 13), (⟨"java/lang/String", "coder", "()B"⟩, prog_17_method_152_code, 1, some (Jvm.ClassFile.FieldType.byte), 13), (⟨"java/lang/String", "isLatin1", "()Z"⟩, prog_17_method_154_code, 1, some (Jvm.ClassFile.FieldType.boolean), 13), (⟨"java/lang/String", "checkIndex", "(II)V"⟩, prog_17_method_155_code, 2, none, 13), (⟨"java/lang/StringLatin1", "charAt", "([BI)C"⟩, prog_18_method_2_code, 2, some (Jvm.ClassFile.FieldType.char), 14), (⟨"java/lang/StringLatin1", "canEncode", "(I)Z"⟩, prog_18_method_4_code, 1, some (Jvm.ClassFile.FieldType.boolean), 14), (⟨"java/lang/StringLatin1", "indexOf", "([BIII)I"⟩, prog_18_method_22_code, 4, some (Jvm.ClassFile.FieldType.int), 14), (⟨"java/lang/StringLatin1", "indexOfChar", "([BIII)I"⟩, prog_18_method_23_code, 6, some (Jvm.ClassFile.FieldType.int), 14), (⟨"jdk/internal/util/Preconditions", "checkIndex", "(IILjava/util/function/BiFunction;)I"⟩, prog_21_method_11_code, 3, some (Jvm.ClassFile.FieldType.int), 15)]
def mm_mc : List mm_mT := mm_mt_0 ++ (mm_mt_1 ++ (mm_mt_2 ++ (mm_mt_3 ++ (mm_mt_4 ++ (mm_mt_5)))))
def mm_tl : mm_mT := (⟨"PennyMoreLaw", "law", "([I)Z"⟩, code, 4, some .boolean, 17)
def mm_mt : List mm_mT := mm_mc ++ [mm_tl]
abbrev mm_nc : Nat := 225
def mm_fd {α : Type} : List (Nat × Nat × α) → Nat → Nat → Option α
  | [], _, _ => none
  | e :: l, x, y => if e.1 == x && e.2.1 == y then some e.2.2 else mm_fd l x y
theorem mm_fd_mem {α : Type} : ∀ {l : List (Nat × Nat × α)} {x y : Nat} {v : α}, mm_fd l x y = some v → (x, y, v) ∈ l
  | [], _, _, _, h => by simp [mm_fd] at h
  | e :: l, x, y, v, h => by
    unfold mm_fd at h
    split at h
    · rename_i hc
      simp only [Bool.and_eq_true, beq_iff_eq] at hc
      obtain ⟨a, b, w⟩ := e
      simp at hc h
      rw [← hc.1, ← hc.2, ← h]; exact List.mem_cons_self
    · exact List.mem_cons_of_mem _ (mm_fd_mem h)
abbrev mm_cl_s : List vw_C := [(RX0, TX0, 4), (RX1, TX1, 20), (RX2, TX0, 4), (RX3, TX0, 4), (RX4, TX0, 4), (RX5, TX5, 4), (RX6, TX6, 10), (RX7, TX0, 4), (RX8, TX8, 3), (RX9, TX0, 4), (RX10, TX0, 4), (RX11, TX11, 13), (RX12, TX12, 76)]
def mm_T (k : Nat) : u_T := (mm_cl_s.getD k ("", TX0, 0)).2.1
def mm_NF (k : Nat) : Nat := (mm_cl_s.getD k ("", TX0, 0)).2.2
/-- 0 an int, 1 a long, 2 a reference, 3 a boolean -/
def mm_tg (k j : Nat) : Nat := (([[0, 0, 0, 0], [2, 2, 2, 2, 2, 2, 2, 2, 2, 0, 0, 0, 0, 0, 0, 0, 0, 0, 0, 0], [0, 0, 0, 0], [0, 0, 0, 0], [0, 0, 0, 0], [0, 2, 0, 2], [0, 0, 0, 0, 2, 2, 2, 2, 0, 0], [0, 0, 0, 0], [2, 0, 0], [0, 0, 0, 0], [0, 0, 0, 0], [2, 2, 2, 2, 2, 2, 2, 2, 2, 2, 2, 0, 3], [0, 2, 2, 2, 2, 2, 2, 2, 0, 2, 0, 0, 0, 0, 0, 0, 2, 0, 0, 2, 2, 2, 2, 2, 2, 2, 0, 0, 0, 2, 2, 2, 2, 2, 2, 2, 0, 0, 2, 0, 0, 2, 0, 0, 2, 2, 2, 0, 0, 0, 0, 0, 2, 1, 3, 2, 2, 2, 2, 3, 0, 0, 0, 0, 2, 2, 2, 2, 2, 2, 2, 2, 2, 2, 0, 2]] : List (List Nat)).getD k []).getD j 0
def mm_bk (k : Nat) : Bool := k == 0 || k == 2 || k == 3 || k == 4 || k == 7 || k == 9 || k == 10
def mm_fam (f k : Nat) : Bool := if f == 0 then mm_bk k else f == k
/-- the String constants: place in the class file, text, bytes -/
def mm_sx (k : Nat) : Nat × String × List Int32 := [(33, ";", [59]), (52, "more ", [109, 111, 114, 101, 32]), (54, "cost ", [99, 111, 115, 116, 32]), (56, "up ", [117, 112, 32]), (58, "down ", [100, 111, 119, 110, 32]), (60, "away ", [97, 119, 97, 121, 32]), (62, "fee ", [102, 101, 101, 32]), (64, "", []), (76, " ", [32]), (117, ")", [41]), (119, "bkplraf", [98, 107, 112, 108, 114, 97, 102]), (125, "<=>", [60, 61, 62])].getD k (0, "", [])
def mm_NC : List (String × String) := [("PennyMore$Buyer", "PennyMore$Plain"), ("PennyMore$Falling", "PennyMore$Plain"), ("PennyMore$Late", "PennyMore$Plain"), ("PennyMore$Told", "PennyMore$Plain"), ("PennyMore$Waiting", "PennyMore$Plain"), ("PennyMore$Buyer", "PennyMore$Waiting"), ("PennyMore$Falling", "PennyMore$Waiting"), ("PennyMore$Plain", "PennyMore$Waiting"), ("PennyMore$Sure", "PennyMore$Waiting"), ("PennyMore$Told", "PennyMore$Waiting"), ("PennyMore$Buyer", "PennyMore$Falling"), ("PennyMore$Late", "PennyMore$Falling"), ("PennyMore$Plain", "PennyMore$Falling"), ("PennyMore$Sure", "PennyMore$Falling"), ("PennyMore$Waiting", "PennyMore$Falling"), ("PennyMore$Buyer", "PennyMore$Sure"), ("PennyMore$Falling", "PennyMore$Sure"), ("PennyMore$Late", "PennyMore$Sure"), ("PennyMore$Plain", "PennyMore$Sure"), ("PennyMore$Told", "PennyMore$Sure"), ("PennyMore$Waiting", "PennyMore$Sure"), ("PennyMore$Buyer", "PennyMore$Late"), ("PennyMore$Falling", "PennyMore$Late"), ("PennyMore$Plain", "PennyMore$Late"), ("PennyMore$Sure", "PennyMore$Late"), ("PennyMore$Told", "PennyMore$Late"), ("PennyMore$Waiting", "PennyMore$Late"), ("PennyMore$Buyer", "PennyMore$Told"), ("PennyMore$Falling", "PennyMore$Told"), ("PennyMore$Late", "PennyMore$Told"), ("PennyMore$Plain", "PennyMore$Told"), ("PennyMore$Sure", "PennyMore$Told"), ("PennyMore$Waiting", "PennyMore$Told")]
def mm_E3 : List (String × Nat × MethodName × String) := [("PennyMore", 38, ⟨"PennyMore$Reader", "<init>", "()V"⟩, "PennyMore"), ("PennyMore", 49, ⟨"PennyMore$Tape", "<init>", "()V"⟩, "PennyMore")]
def mm_E2 : List String := ["PennyMore$Buyer", "PennyMore$Shop", "PennyMore$Tape"]
def mm_E1 : List (String × String) := [("PennyMore$Falling", "PennyMore$Buyer"), ("PennyMore$Late", "PennyMore$Buyer"), ("PennyMore$Late", "PennyMore$Waiting"), ("PennyMore$Plain", "PennyMore$Buyer"), ("PennyMore$Sure", "PennyMore$Buyer"), ("PennyMore$Sure", "PennyMore$Plain"), ("PennyMore$Told", "PennyMore$Buyer"), ("PennyMore$Told", "PennyMore$Falling"), ("PennyMore$Waiting", "PennyMore$Buyer")]
def mm_FL_0 : List (Nat × Nat × Nat × Nat × Nat × Nat) := [(0, 9, 0, 0, 0, 1), (0, 15, 0, 1, 0, 1), (0, 18, 0, 2, 0, 1), (0, 21, 0, 3, 0, 1), (1, 11, 1, 0, 2, 1), (1, 17, 1, 1, 2, 1), (1, 21, 1, 2, 2, 1), (1, 24, 1, 3, 2, 1), (1, 27, 1, 4, 2, 1), (1, 30, 1, 5, 2, 1), (1, 33, 1, 6, 2, 1), (1, 38, 1, 7, 2, 1), (1, 41, 1, 12, 0, 0), (1, 45, 1, 13, 0, 0), (1, 48, 1, 8, 2, 0), (1, 52, 6, 3, 0, 0), (1, 55, 1, 9, 0, 0), (1, 62, 1, 10, 0, 0), (1, 65, 1, 11, 0, 0), (1, 68, 1, 14, 0, 0), (1, 71, 1, 15, 0, 0), (1, 74, 1, 16, 0, 0), (1, 77, 1, 17, 0, 0), (1, 91, 6, 2, 0, 0), (1, 94, 1, 18, 0, 0)]
def mm_FL_1 : List (Nat × Nat × Nat × Nat × Nat × Nat) := [(1, 97, 1, 19, 0, 0), (1, 100, 0, 0, 0, 1), (1, 107, 0, 3, 0, 1), (1, 124, 6, 0, 0, 0), (1, 133, 6, 1, 0, 0), (2, 9, 1, 12, 0, 0), (2, 15, 0, 2, 0, 1), (2, 20, 0, 1, 0, 1), (3, 9, 1, 11, 0, 0), (3, 15, 0, 2, 0, 1), (3, 20, 0, 1, 0, 1), (4, 15, 0, 2, 0, 1), (5, 9, 5, 1, 2, 1), (5, 13, 5, 0, 0, 0), (5, 17, 5, 3, 2, 0), (5, 26, 5, 2, 0, 0), (5, 86, 6, 0, 0, 0), (5, 89, 6, 1, 0, 0), (5, 98, 6, 2, 0, 0), (5, 101, 6, 3, 0, 0), (6, 9, 6, 4, 2, 1), (6, 13, 6, 5, 2, 1), (6, 16, 6, 6, 2, 1), (6, 21, 6, 7, 2, 1), (6, 27, 6, 8, 0, 0)]
def mm_FL_2 : List (Nat × Nat × Nat × Nat × Nat × Nat) := [(6, 31, 6, 9, 0, 0), (6, 34, 6, 0, 0, 0), (6, 37, 6, 1, 0, 0), (6, 40, 6, 2, 0, 0), (6, 43, 6, 3, 0, 0), (7, 9, 1, 13, 0, 0), (7, 15, 0, 2, 0, 1), (8, 9, 8, 0, 2, 1), (8, 13, 8, 1, 0, 0), (8, 17, 8, 2, 0, 0), (9, 9, 1, 2, 2, 1), (9, 15, 0, 1, 0, 1), (9, 21, 1, 12, 0, 0), (9, 43, 0, 2, 0, 1), (10, 9, 1, 18, 0, 0), (10, 15, 1, 12, 0, 0), (10, 18, 0, 1, 0, 1), (11, 17, 11, 0, 2, 1), (11, 23, 11, 1, 2, 1), (11, 26, 11, 2, 2, 1), (11, 29, 11, 3, 2, 1), (11, 32, 11, 4, 2, 1), (11, 39, 11, 5, 2, 1), (11, 45, 11, 6, 2, 1), (11, 50, 11, 7, 2, 1)]
def mm_FL_3 : List (Nat × Nat × Nat × Nat × Nat × Nat) := [(11, 54, 11, 8, 2, 1), (11, 57, 11, 9, 2, 1), (11, 60, 11, 10, 2, 1), (11, 65, 1, 10, 0, 0), (11, 81, 1, 0, 2, 1), (11, 85, 0, 0, 0, 1), (11, 88, 0, 2, 0, 1), (11, 91, 0, 3, 0, 1), (11, 94, 1, 1, 2, 1), (11, 101, 1, 3, 2, 1), (11, 111, 1, 18, 0, 0), (11, 114, 1, 19, 0, 0), (11, 120, 1, 4, 2, 1), (11, 124, 1, 2, 2, 1), (11, 130, 1, 12, 0, 0), (11, 133, 1, 13, 0, 0), (11, 139, 5, 0, 0, 0), (11, 142, 11, 11, 0, 0), (11, 155, 1, 8, 2, 0), (11, 159, 6, 0, 0, 0), (11, 162, 6, 1, 0, 0), (11, 165, 6, 2, 0, 0), (11, 168, 6, 3, 0, 0), (11, 171, 1, 14, 0, 0), (11, 174, 1, 15, 0, 0)]
def mm_FL_4 : List (Nat × Nat × Nat × Nat × Nat × Nat) := [(11, 177, 1, 11, 0, 0), (11, 242, 1, 5, 2, 1), (11, 258, 1, 16, 0, 0), (11, 268, 1, 17, 0, 0), (11, 271, 1, 6, 2, 1), (11, 280, 8, 1, 0, 0), (11, 283, 8, 2, 0, 0), (11, 284, 8, 0, 2, 1), (11, 288, 11, 12, 3, 0), (11, 347, 1, 9, 0, 0), (12, 9, 12, 1, 2, 1), (12, 15, 12, 2, 2, 1), (12, 18, 12, 3, 2, 1), (12, 21, 12, 4, 2, 1), (12, 24, 12, 5, 2, 1), (12, 27, 12, 6, 2, 1), (12, 30, 12, 7, 2, 1), (12, 33, 12, 9, 2, 1), (12, 36, 12, 10, 0, 0), (12, 40, 12, 11, 0, 0), (12, 43, 12, 16, 2, 1), (12, 46, 12, 18, 0, 0), (12, 49, 12, 19, 2, 1), (12, 52, 12, 20, 2, 1), (12, 55, 12, 21, 2, 1)]
def mm_FL_5 : List (Nat × Nat × Nat × Nat × Nat × Nat) := [(12, 58, 12, 22, 2, 1), (12, 61, 12, 23, 2, 1), (12, 64, 12, 24, 2, 1), (12, 67, 12, 25, 2, 1), (12, 70, 12, 27, 0, 0), (12, 73, 12, 29, 2, 1), (12, 76, 12, 30, 2, 1), (12, 79, 12, 31, 2, 1), (12, 82, 12, 32, 2, 1), (12, 86, 12, 33, 2, 1), (12, 89, 12, 34, 2, 1), (12, 92, 12, 35, 2, 1), (12, 95, 12, 38, 2, 1), (12, 98, 12, 41, 2, 1), (12, 102, 12, 44, 2, 1), (12, 105, 12, 45, 2, 1), (12, 108, 12, 46, 2, 1), (12, 111, 12, 52, 2, 1), (12, 114, 12, 55, 2, 1), (12, 117, 12, 56, 2, 1), (12, 120, 12, 57, 2, 1), (12, 123, 12, 58, 2, 1), (12, 126, 12, 64, 2, 1), (12, 129, 12, 65, 2, 1), (12, 132, 12, 66, 2, 1)]
def mm_FL_6 : List (Nat × Nat × Nat × Nat × Nat × Nat) := [(12, 135, 12, 67, 2, 1), (12, 138, 12, 68, 2, 1), (12, 141, 12, 69, 2, 1), (12, 144, 12, 70, 2, 1), (12, 147, 12, 71, 2, 1), (12, 150, 12, 72, 2, 1), (12, 153, 12, 73, 2, 1), (12, 156, 12, 75, 2, 1), (12, 159, 12, 0, 0, 0), (12, 166, 12, 8, 0, 0), (12, 184, 12, 26, 0, 0), (12, 187, 12, 36, 0, 0), (12, 200, 12, 37, 0, 0), (12, 209, 12, 39, 0, 0), (12, 212, 12, 40, 0, 0), (12, 237, 12, 17, 0, 0), (12, 257, 12, 12, 0, 0), (12, 260, 12, 13, 0, 0), (12, 284, 12, 42, 0, 0), (12, 287, 12, 43, 0, 0), (12, 296, 12, 47, 0, 0), (12, 299, 12, 48, 0, 0), (12, 302, 12, 49, 0, 0), (12, 305, 12, 50, 0, 0), (12, 308, 12, 51, 0, 0)]
def mm_FL_7 : List (Nat × Nat × Nat × Nat × Nat × Nat) := [(12, 340, 12, 14, 0, 0), (12, 343, 12, 54, 3, 0), (12, 356, 12, 53, 1, 0), (12, 365, 12, 15, 0, 0), (12, 371, 12, 59, 3, 0), (12, 374, 12, 60, 0, 0), (12, 377, 12, 61, 0, 0), (12, 380, 12, 62, 0, 0), (12, 383, 12, 63, 0, 0), (12, 386, 12, 28, 0, 0), (12, 398, 12, 74, 0, 0)]
def mm_FL : List (Nat × Nat × Nat × Nat × Nat × Nat) := mm_FL_0 ++ (mm_FL_1 ++ (mm_FL_2 ++ (mm_FL_3 ++ (mm_FL_4 ++ (mm_FL_5 ++ (mm_FL_6 ++ (mm_FL_7)))))))
def mm_ST_0 : List (Nat × Nat × Nat × Nat) := [(0, 30, 2, 1), (2, 31, 2, 1), (3, 31, 2, 1), (4, 21, 2, 1), (5, 66, 1, 40), (5, 127, 3, 50), (6, 50, 2, 54), (7, 24, 2, 1), (9, 32, 2, 1), (10, 31, 2, 1), (11, 69, 4, 111), (11, 97, 1, 108), (11, 235, 3, 126), (11, 274, 1, 109), (11, 301, 2, 112), (12, 162, 3, 128), (12, 194, 1, 140), (12, 323, 1, 177), (12, 331, 3, 181), (12, 392, 1, 199), (12, 407, 2, 208), (13, 495, 2, 220), (13, 637, 4, 222), (13, 1059, 3, 224), (14, 9, 2, 219)]
def mm_ST_1 : List (Nat × Nat × Nat × Nat) := [(14, 88, 1, 221), (14, 95, 4, 223)]
def mm_ST : List (Nat × Nat × Nat × Nat) := mm_ST_0 ++ (mm_ST_1)
def mm_VT_0 : List (Nat × Nat × Nat × List (Nat × Nat)) := [(0, 24, 0, [(1, 18)]), (0, 34, 2, [(0, 3), (2, 3), (3, 71), (4, 3), (7, 57), (9, 68), (10, 71)]), (0, 38, 2, [(0, 4), (2, 4), (3, 4), (4, 33), (7, 58), (9, 67), (10, 4)]), (1, 80, 1, [(1, 13)]), (1, 84, 1, [(1, 12)]), (1, 88, 1, [(1, 14)]), (1, 103, 1, [(1, 17)]), (1, 110, 2, [(6, 52)]), (1, 114, 1, [(1, 19)]), (1, 117, 1, [(0, 2), (2, 26), (3, 29), (4, 32), (7, 56), (9, 66), (10, 70)]), (1, 121, 1, [(1, 22)]), (1, 136, 0, [(1, 20)]), (1, 140, 0, [(1, 21)]), (2, 23, 1, [(1, 17)]), (2, 39, 2, [(2, 4), (9, 67)]), (3, 23, 1, [(1, 16)]), (4, 9, 0, [(1, 18)]), (5, 21, 0, [(6, 48)]), (5, 29, 0, [(5, 41)]), (5, 35, 1, [(5, 39)]), (5, 39, 0, [(100, 212)]), (5, 45, 0, [(5, 38)]), (5, 48, 1, [(100, 214)]), (5, 70, 0, [(100, 213)]), (5, 73, 0, [(5, 46)])]
def mm_VT_1 : List (Nat × Nat × Nat × List (Nat × Nat)) := [(5, 78, 1, [(5, 42)]), (5, 82, 2, [(6, 51)]), (5, 104, 1, [(5, 43)]), (5, 107, 1, [(6, 49)]), (5, 111, 1, [(5, 44)]), (5, 114, 0, [(5, 45)]), (5, 121, 1, [(100, 215)]), (6, 24, 0, [(6, 48)]), (6, 46, 3, [(6, 53)]), (9, 24, 1, [(1, 16)]), (10, 23, 1, [(1, 16)]), (11, 73, 1, [(1, 9)]), (11, 77, 1, [(1, 8)]), (11, 104, 1, [(1, 12)]), (11, 107, 1, [(1, 19)]), (11, 117, 1, [(11, 110)]), (11, 127, 1, [(1, 13)]), (11, 136, 1, [(5, 35)]), (11, 145, 1, [(5, 37)]), (11, 149, 0, [(5, 36)]), (11, 152, 1, [(1, 10)]), (11, 180, 0, [(1, 11)]), (11, 184, 1, [(1, 7)]), (11, 188, 1, [(1, 15)]), (11, 191, 1, [(0, 2), (2, 26), (3, 29), (4, 32), (7, 56), (9, 66), (10, 70)])]
def mm_VT_2 : List (Nat × Nat × Nat × List (Nat × Nat)) := [(11, 195, 0, [(1, 20)]), (11, 199, 0, [(1, 21)]), (11, 202, 0, [(11, 113)]), (11, 205, 0, [(11, 114)]), (11, 208, 1, [(1, 16)]), (11, 211, 3, [(11, 116)]), (11, 215, 1, [(11, 119)]), (11, 218, 0, [(1, 23)]), (11, 221, 1, [(11, 117)]), (11, 226, 0, [(11, 120)]), (11, 229, 0, [(11, 121)]), (11, 232, 0, [(11, 122)]), (11, 239, 1, [(11, 115)]), (11, 245, 1, [(11, 118)]), (11, 255, 1, [(1, 14)]), (11, 261, 1, [(11, 124)]), (11, 265, 1, [(11, 125)]), (11, 277, 0, [(8, 61)]), (11, 292, 2, [(0, 3), (2, 3), (3, 71), (4, 3), (7, 57), (9, 68), (10, 71)]), (11, 296, 2, [(0, 4), (2, 4), (3, 4), (4, 33), (7, 58), (9, 67), (10, 4)]), (11, 299, 2, [(0, 5), (2, 27), (3, 30), (4, 5), (7, 5), (9, 27), (10, 5)]), (11, 305, 2, [(8, 60)]), (11, 309, 1, [(8, 62)]), (11, 312, 1, [(8, 64)]), (11, 316, 2, [(8, 63)])]
def mm_VT_3 : List (Nat × Nat × Nat × List (Nat × Nat)) := [(11, 348, 1, [(1, 22)]), (11, 351, 0, [(1, 24)]), (11, 354, 2, [(11, 123)]), (12, 169, 1, [(12, 129)]), (12, 173, 1, [(12, 130)]), (12, 177, 1, [(12, 156)]), (12, 180, 1, [(12, 157)]), (12, 190, 0, [(12, 139)]), (12, 197, 1, [(12, 141)]), (12, 203, 0, [(12, 142)]), (12, 206, 1, [(12, 144)]), (12, 215, 1, [(12, 148)]), (12, 218, 0, [(12, 145)]), (12, 222, 0, [(12, 146)]), (12, 225, 1, [(12, 147)]), (12, 228, 0, [(12, 143)]), (12, 231, 0, [(12, 149)]), (12, 234, 0, [(12, 150)]), (12, 240, 0, [(12, 151)]), (12, 243, 2, [(12, 153)]), (12, 247, 2, [(12, 154)]), (12, 251, 2, [(12, 155)]), (12, 254, 1, [(12, 158)]), (12, 263, 1, [(12, 161)]), (12, 266, 1, [(12, 160)])]
def mm_VT_4 : List (Nat × Nat × Nat × List (Nat × Nat)) := [(12, 269, 1, [(12, 162)]), (12, 272, 1, [(12, 165)]), (12, 275, 1, [(12, 163)]), (12, 278, 1, [(12, 164)]), (12, 281, 1, [(12, 166)]), (12, 290, 0, [(12, 168)]), (12, 293, 1, [(12, 169)]), (12, 311, 0, [(12, 171)]), (12, 314, 0, [(12, 173)]), (12, 317, 0, [(12, 172)]), (12, 320, 0, [(12, 174)]), (12, 326, 1, [(12, 178)]), (12, 336, 2, [(12, 185)]), (12, 347, 1, [(12, 188)]), (12, 350, 3, [(12, 190)]), (12, 360, 1, [(12, 189)]), (12, 368, 1, [(12, 194)]), (12, 389, 1, [(12, 198)]), (12, 395, 2, [(12, 200)]), (12, 401, 2, [(12, 201)]), (12, 404, 2, [(12, 202)]), (13, 335, 0, [(100, 217)]), (13, 492, 0, [(100, 218)]), (13, 505, 0, [(100, 212)]), (13, 633, 2, [(100, 216)])]
def mm_VT_5 : List (Nat × Nat × Nat × List (Nat × Nat)) := [(17, 13, 3, [(11, 73)]), (17, 17, 3, [(12, 131)]), (17, 18, 2, [(11, 74)]), (17, 22, 2, [(12, 132)]), (17, 23, 1, [(11, 75)]), (17, 27, 1, [(12, 133)]), (17, 28, 2, [(11, 76)]), (17, 31, 2, [(12, 134)]), (17, 32, 3, [(11, 77)]), (17, 35, 3, [(12, 135)]), (17, 36, 1, [(11, 78)]), (17, 39, 1, [(12, 136)]), (17, 40, 2, [(11, 79)]), (17, 43, 2, [(12, 137)]), (17, 44, 1, [(11, 80)]), (17, 47, 1, [(12, 138)]), (17, 48, 0, [(11, 81)]), (17, 52, 0, [(12, 152)]), (17, 53, 1, [(11, 82)]), (17, 56, 1, [(12, 159)]), (17, 57, 1, [(11, 83)]), (17, 60, 1, [(12, 167)]), (17, 61, 0, [(11, 84)]), (17, 64, 0, [(12, 170)]), (17, 65, 1, [(11, 85)])]
def mm_VT_6 : List (Nat × Nat × Nat × List (Nat × Nat)) := [(17, 68, 1, [(12, 175)]), (17, 69, 1, [(11, 86)]), (17, 72, 1, [(12, 176)]), (17, 73, 2, [(11, 87)]), (17, 76, 2, [(12, 179)]), (17, 77, 1, [(11, 88)]), (17, 80, 1, [(12, 180)]), (17, 81, 1, [(11, 89)]), (17, 85, 1, [(12, 182)]), (17, 86, 0, [(11, 90)]), (17, 89, 0, [(12, 183)]), (17, 90, 1, [(11, 91)]), (17, 93, 1, [(12, 184)]), (17, 94, 1, [(11, 92)]), (17, 97, 1, [(12, 186)]), (17, 98, 1, [(11, 93)]), (17, 101, 1, [(12, 187)]), (17, 102, 2, [(11, 94)]), (17, 106, 2, [(12, 191)]), (17, 107, 1, [(11, 95)]), (17, 110, 1, [(12, 192)]), (17, 111, 0, [(11, 96)]), (17, 114, 0, [(12, 193)]), (17, 115, 2, [(11, 97)]), (17, 118, 2, [(12, 195)])]
def mm_VT_7 : List (Nat × Nat × Nat × List (Nat × Nat)) := [(17, 119, 0, [(11, 98)]), (17, 122, 0, [(12, 196)]), (17, 123, 0, [(11, 99)]), (17, 126, 0, [(12, 197)]), (17, 127, 3, [(11, 100)]), (17, 130, 3, [(12, 203)]), (17, 131, 1, [(11, 101)]), (17, 134, 1, [(12, 204)]), (17, 135, 2, [(11, 102)]), (17, 138, 2, [(12, 205)]), (17, 139, 1, [(11, 103)]), (17, 142, 1, [(12, 206)]), (17, 143, 3, [(11, 104)]), (17, 146, 3, [(12, 207)]), (17, 149, 3, [(11, 105)]), (17, 153, 3, [(12, 209)]), (17, 154, 2, [(11, 106)]), (17, 157, 2, [(12, 210)]), (17, 158, 5, [(11, 107)]), (17, 162, 5, [(12, 211)])]
def mm_VT : List (Nat × Nat × Nat × List (Nat × Nat)) := mm_VT_0 ++ (mm_VT_1 ++ (mm_VT_2 ++ (mm_VT_3 ++ (mm_VT_4 ++ (mm_VT_5 ++ (mm_VT_6 ++ (mm_VT_7)))))))
def mm_SP_0 : List (Nat × Nat × Nat × Nat × Nat) := [(2, 3, 4, 0, 1), (2, 27, 1, 2, 2), (2, 35, 2, 5, 2), (3, 3, 4, 69, 1), (3, 27, 1, 70, 2), (3, 35, 2, 5, 2), (4, 3, 4, 0, 1), (4, 25, 2, 4, 2), (7, 3, 4, 31, 1), (7, 20, 1, 32, 2), (7, 28, 2, 3, 2), (7, 32, 2, 33, 2), (9, 3, 4, 25, 1), (9, 28, 1, 26, 2), (9, 36, 2, 4, 2), (9, 40, 2, 3, 2), (10, 3, 4, 0, 1), (10, 27, 1, 2, 2), (10, 35, 2, 3, 2), (11, 11, 0, 47, 1), (11, 14, 1, 6, 1), (11, 38, 0, 34, 3), (11, 49, 0, 59, 3), (11, 328, 4, 31, 1), (11, 333, 4, 69, 1)]
def mm_SP_1 : List (Nat × Nat × Nat × Nat × Nat) := [(11, 336, 4, 25, 1), (11, 339, 4, 55, 1), (11, 342, 4, 28, 1), (11, 345, 4, 65, 1), (11, 346, 4, 0, 1), (17, 9, 0, 72, 1), (17, 12, 0, 127, 1)]
def mm_SP : List (Nat × Nat × Nat × Nat × Nat) := mm_SP_0 ++ (mm_SP_1)
def mm_OI_0 : List (Nat × Nat × Unit) := [(0, 3, ()), (1, 3, ()), (5, 1, ()), (6, 1, ()), (8, 1, ()), (11, 3, ()), (12, 3, ())]
def mm_OI : List (Nat × Nat × Unit) := mm_OI_0
def mm_AC_0 : List (Nat × Nat × Unit) := [(1, 56, ()), (11, 320, ())]
def mm_AC : List (Nat × Nat × Unit) := mm_AC_0
def mm_MX_0 : List (Nat × Nat × Nat) := [(1, 127, 0), (5, 92, 0), (11, 248, 0), (14, 38, 0), (14, 92, 1)]
def mm_MX : List (Nat × Nat × Nat) := mm_MX_0
def mm_NW_0 : List (Nat × Nat × Nat) := [(11, 9, 6), (11, 12, 1), (11, 36, 5), (11, 43, 8), (11, 63, 0), (11, 326, 4), (11, 331, 10), (11, 334, 2), (11, 337, 7), (11, 340, 3), (11, 343, 9), (17, 7, 11), (17, 10, 12)]
def mm_NW : List (Nat × Nat × Nat) := mm_NW_0
def mm_AN_0 : List (Nat × Nat × Nat) := [(1, 9, 16), (11, 9, 17), (11, 43, 18)]
def mm_AN : List (Nat × Nat × Nat) := mm_AN_0
def mm_IO_0 : List (Nat × Nat × String × List Nat) := [(11, 326, "PennyMore$Plain", [4, 7]), (11, 331, "PennyMore$Waiting", [3, 10]), (11, 334, "PennyMore$Falling", [2, 9]), (11, 337, "PennyMore$Sure", [7]), (11, 340, "PennyMore$Late", [3]), (11, 343, "PennyMore$Told", [9])]
def mm_IO : List (Nat × Nat × String × List Nat) := mm_IO_0
def mm_LC_0 : List (Nat × Nat × Value) := [(5, 33, .ref 1000000), (5, 52, .ref 1000002), (5, 54, .ref 1000004), (5, 56, .ref 1000006), (5, 58, .ref 1000008), (5, 60, .ref 1000010), (5, 62, .ref 1000012), (5, 64, .ref 1000014), (5, 76, .ref 1000016), (5, 117, .ref 1000018), (5, 119, .ref 1000020), (5, 125, .ref 1000022), (11, 123, .int (-100001)), (11, 254, .int (-100003)), (12, 183, .int (-100001)), (12, 335, .int (-100003))]
def mm_LC : List (Nat × Nat × Value) := mm_LC_0
def mm_L2_0 : List (Nat × Nat × Int64) := [(11, 224, -9223372036854775808), (12, 329, -9223372036854775808), (12, 354, 10), (12, 363, 1000000000000), (17, 147, 4294967295)]
def mm_L2 : List (Nat × Nat × Int64) := mm_L2_0
def mm_okF (e : Nat × Nat × Nat × Nat × Nat × Nat) : Prop := ∃ ref : String, Cond.fieldLink (mm_cn e.1) e.2.1 ref (mm_T e.2.2.1 e.2.2.2.1).2.1 (mm_T e.2.2.1 e.2.2.2.1).2.2.1 ∈ mm_G ∧ (ref = (mm_T e.2.2.1 e.2.2.2.1).1 ∨ Cond.sameField ref (mm_T e.2.2.1 e.2.2.2.1).1 (mm_T e.2.2.1 e.2.2.2.1).2.1 (mm_T e.2.2.1 e.2.2.2.1).2.2.1 ∈ mm_G) ∧ e.2.2.2.1 < mm_NF e.2.2.1 ∧ mm_tg e.2.2.1 e.2.2.2.1 = e.2.2.2.2.1 ∧ (e.2.2.1 < 13 ∧ (e.2.2.1 = 0 ∨ mm_bk e.2.2.1 = false)) ∧ ((e.2.2.2.2.2 = 0 ∧ (mm_T e.2.2.1 e.2.2.2.1).2.2.2 = false) ∨ (e.2.2.2.2.2 = 1 ∧ (mm_T e.2.2.1 e.2.2.2.1).2.2.2 = true))
def mm_okT (t : mm_mT) : Prop := Cond.code t.1 t.2.1 t.2.2.1 t.2.2.2.1 ∈ mm_G ∧ plainName t.1.cls = true ∧ t.2.2.1 ≤ 40 ∧ t.1.cls = mm_cn t.2.2.2.2 ∧ t.2.2.2.2 ≠ 17 ∧ (t.1.cls ≠ "java/lang/invoke/MethodHandle" ∧ t.1.cls ≠ "java/lang/invoke/VarHandle")
def mm_okS (e : Nat × Nat × Nat × Nat) : Prop := ∃ (t : mm_mT) (x : MethodName), mm_mc[e.2.2.2]? = some t ∧ Cond.methodLink (mm_cn e.1) e.2.1 x ∈ mm_G ∧ Cond.static t.1 ∈ mm_G ∧ Cond.initialized t.1.cls ∈ mm_G ∧ (parseMethodDescriptor x.desc).map (fun d => d.parameters.length) = some e.2.2.1 ∧ (x = t.1 ∨ (Cond.sameMethod x.cls t.1.cls x.name x.desc ∈ mm_G ∧ t.1 = ⟨t.1.cls, x.name, x.desc⟩))
def mm_ck (k : Nat) : String := if k = 100 then "java/lang/String" else (mm_cl_s.getD k ("", TX0, 0)).1
def mm_okV1 (e : Nat × Nat × Nat × List (Nat × Nat)) (q : Nat × Nat) : Prop := ∃ (t : mm_mT) (x : MethodName) (owner : String), mm_mc[q.2]? = some t ∧ Cond.methodLink (mm_cn e.1) e.2.1 x ∈ mm_G ∧ Cond.initialized t.1.cls ∈ mm_G ∧ Cond.instanceMethod t.1 ∈ mm_G ∧ Cond.selects (mm_ck q.1) x t.1 ∈ mm_G ∧ (parseMethodDescriptor x.desc).map (fun d => d.parameters.length) = some e.2.2.1 ∧ (owner ≠ "java/lang/invoke/MethodHandle" ∧ owner ≠ "java/lang/invoke/VarHandle") ∧ (q.1 < 13 ∨ q.1 = 100) ∧ ((x = t.1) ∨ (Cond.sameMethod x.cls owner x.name x.desc ∈ mm_G ∧ ∃ (z : MethodName) (b0 : ByteArray) (m0 : Nat) (r0 : Option FieldType), z = ⟨owner, x.name, x.desc⟩ ∧ Cond.instanceMethod z ∈ mm_G ∧ Cond.code z b0 m0 r0 ∈ mm_G))
def mm_okV (e : Nat × Nat × Nat × List (Nat × Nat)) : Prop := ∀ q ∈ e.2.2.2, mm_okV1 e q
def mm_okP (e : Nat × Nat × Nat × Nat × Nat) : Prop := ∃ (t : mm_mT) (x : MethodName), mm_mc[e.2.2.2.1]? = some t ∧ Cond.instanceMethod t.1 ∈ mm_G ∧ Cond.initialized t.1.cls ∈ mm_G ∧ (parseMethodDescriptor x.desc).map (fun d => d.parameters.length) = some e.2.2.1 ∧ ((e.2.2.2.2 = 1 ∧ t.1.name = "<init>" ∧ t.2.2.2.1 = none ∧ x = t.1 ∧ Cond.methodLink (mm_cn e.1) e.2.1 t.1 ∈ mm_G) ∨ (e.2.2.2.2 = 2 ∧ x.name ≠ "<init>" ∧ t.1 = ⟨t.1.cls, x.name, x.desc⟩ ∧ Cond.methodLink (mm_cn e.1) e.2.1 x ∈ mm_G ∧ Cond.sameMethod x.cls t.1.cls x.name x.desc ∈ mm_G ∧ Cond.superclass (mm_cn e.1) x.cls ∈ mm_G ∧ (x.cls = t.1.cls ∨ Cond.superclass x.cls t.1.cls ∈ mm_G)) ∨ (e.2.2.2.2 = 3 ∧ t.1.name = "<init>" ∧ t.2.2.2.1 = none ∧ x = t.1 ∧ ∃ host : String, (mm_cn e.1, e.2.1, t.1, host) ∈ mm_E3))
def mm_okO (e : Nat × Nat × Unit) : Prop := Cond.methodLink (mm_cn e.1) e.2.1 Lib.objectInit ∈ mm_G
def mm_okA (e : Nat × Nat × Unit) : Prop := Cond.methodLink (mm_cn e.1) e.2.1 arraycopyName ∈ mm_G
def mm_okM (e : Nat × Nat × Nat) : Prop := (e.2.2 = 0 ∧ Cond.methodLink (mm_cn e.1) e.2.1 Lib.Math.min.name ∈ mm_G) ∨ (e.2.2 = 1 ∧ Cond.methodLink (mm_cn e.1) e.2.1 Lib.Math.max.name ∈ mm_G)
def mm_okN (e : Nat × Nat × Nat) : Prop := e.2.2 < 13 ∧ Cond.classLink (mm_cn e.1) e.2.1 (mm_ck e.2.2) ∈ mm_G ∧ Cond.instantiable (mm_ck e.2.2) (mm_NF e.2.2) ∈ mm_G ∧ Cond.initialized (mm_ck e.2.2) ∈ mm_G
def mm_ce (k : Nat) : String := if k = 16 then "PennyMore$Buyer" else if k = 17 then "PennyMore$Shop" else "PennyMore$Tape"
def mm_okR (e : Nat × Nat × Nat) : Prop := (e.2.2 = 16 ∨ e.2.2 = 17 ∨ e.2.2 = 18) ∧ Cond.classLink (mm_cn e.1) e.2.1 (mm_ce e.2.2) ∈ mm_G ∧ mm_ce e.2.2 ∈ mm_E2
def mm_okI (e : Nat × Nat × String × List Nat) : Prop := Cond.classLink (mm_cn e.1) e.2.1 e.2.2.1 ∈ mm_G ∧ (∀ k ∈ e.2.2.2, mm_ck k = e.2.2.1 ∨ (mm_ck k, e.2.2.1) ∈ mm_E1) ∧ ∀ k, mm_bk k = true → k ∉ e.2.2.2 → (mm_ck k, e.2.2.1) ∈ mm_NC
def mm_okC (e : Nat × Nat × Value) : Prop := (∃ v : Int32, e.2.2 = .int v ∧ Cond.constant (mm_cn e.1) e.2.1 v ∈ mm_G) ∨ (∃ k : Nat, k < 12 ∧ e.2.2 = .ref (1000000 + 2 * k) ∧ e.1 = 5 ∧ e.2.1 = (mm_sx k).1)
def mm_ok2 (e : Nat × Nat × Int64) : Prop := Cond.constantLong (mm_cn e.1) e.2.1 e.2.2 ∈ mm_G
