section
-- ===== PART A: goes FIRST, ahead of the names: the tables' words, and 'selects' of the private methods out of them =====
/-- a private method of a class that the tables say can be made, by its rows of tables_1 -/
def lw_okq (q : MethodName × Nat) : Prop := (q.1.cls ≠ "java/lang/invoke/MethodHandle" ∧ q.1.cls ≠ "java/lang/invoke/VarHandle") ∧ Cond.instantiable q.1.cls q.2 ∈ tables_1 ∧ Cond.privateMethod q.1 ∈ tables_1 ∧ Cond.instanceMethod q.1 ∈ tables_1
theorem lw_p0 : lw_okq (⟨"PennyMore$Shop", "holds", "(II[I)Z"⟩, 10) := ⟨⟨by decide +kernel, by decide +kernel⟩, List.mem_of_getElem? (i := 30) (by decide +kernel), List.mem_of_getElem? (i := 412) (by decide +kernel), List.mem_of_getElem? (i := 413) (by decide +kernel)⟩
theorem lw_p1 : lw_okq (⟨"PennyMore", "rowDigits", "(I)I"⟩, 13) := ⟨⟨by decide +kernel, by decide +kernel⟩, List.mem_of_getElem? (i := 22) (by decide +kernel), List.mem_of_getElem? (i := 419) (by decide +kernel), List.mem_of_getElem? (i := 420) (by decide +kernel)⟩
theorem lw_p2 : lw_okq (⟨"PennyMore$Reader", "clause", "()Z"⟩, 4) := ⟨⟨by decide +kernel, by decide +kernel⟩, List.mem_of_getElem? (i := 180) (by decide +kernel), List.mem_of_getElem? (i := 462) (by decide +kernel), List.mem_of_getElem? (i := 463) (by decide +kernel)⟩
theorem lw_p3 : lw_okq (⟨"PennyMore$Reader", "next", "()I"⟩, 4) := ⟨⟨by decide +kernel, by decide +kernel⟩, List.mem_of_getElem? (i := 180) (by decide +kernel), List.mem_of_getElem? (i := 466) (by decide +kernel), List.mem_of_getElem? (i := 467) (by decide +kernel)⟩
theorem lw_p4 : lw_okq (⟨"PennyMore$Reader", "word", "(Ljava/lang/String;)Z"⟩, 4) := ⟨⟨by decide +kernel, by decide +kernel⟩, List.mem_of_getElem? (i := 180) (by decide +kernel), List.mem_of_getElem? (i := 484) (by decide +kernel), List.mem_of_getElem? (i := 485) (by decide +kernel)⟩
theorem lw_p5 : lw_okq (⟨"PennyMore$Reader", "number", "()I"⟩, 4) := ⟨⟨by decide +kernel, by decide +kernel⟩, List.mem_of_getElem? (i := 180) (by decide +kernel), List.mem_of_getElem? (i := 536) (by decide +kernel), List.mem_of_getElem? (i := 537) (by decide +kernel)⟩
theorem lw_p6 : lw_okq (⟨"PennyMore$Reader", "either", "(I)Z"⟩, 4) := ⟨⟨by decide +kernel, by decide +kernel⟩, List.mem_of_getElem? (i := 180) (by decide +kernel), List.mem_of_getElem? (i := 541) (by decide +kernel), List.mem_of_getElem? (i := 542) (by decide +kernel)⟩
theorem lw_p7 : lw_okq (⟨"PennyMore$Reader", "both", "(I)Z"⟩, 4) := ⟨⟨by decide +kernel, by decide +kernel⟩, List.mem_of_getElem? (i := 180) (by decide +kernel), List.mem_of_getElem? (i := 545) (by decide +kernel), List.mem_of_getElem? (i := 546) (by decide +kernel)⟩
theorem lw_p8 : lw_okq (⟨"PennyMore$Reader", "factor", "(I)Z"⟩, 4) := ⟨⟨by decide +kernel, by decide +kernel⟩, List.mem_of_getElem? (i := 180) (by decide +kernel), List.mem_of_getElem? (i := 549) (by decide +kernel), List.mem_of_getElem? (i := 550) (by decide +kernel)⟩
theorem lw_p9 : lw_okq (⟨"PennyMore$Reader", "test", "()Z"⟩, 4) := ⟨⟨by decide +kernel, by decide +kernel⟩, List.mem_of_getElem? (i := 180) (by decide +kernel), List.mem_of_getElem? (i := 553) (by decide +kernel), List.mem_of_getElem? (i := 554) (by decide +kernel)⟩
theorem lw_p10 : lw_okq (⟨"PennyMore", "runTrial", "()V"⟩, 13) := ⟨⟨by decide +kernel, by decide +kernel⟩, List.mem_of_getElem? (i := 22) (by decide +kernel), List.mem_of_getElem? (i := 731) (by decide +kernel), List.mem_of_getElem? (i := 732) (by decide +kernel)⟩
theorem lw_p11 : lw_okq (⟨"PennyMore", "whoGetsLoaves", "()I"⟩, 13) := ⟨⟨by decide +kernel, by decide +kernel⟩, List.mem_of_getElem? (i := 22) (by decide +kernel), List.mem_of_getElem? (i := 741) (by decide +kernel), List.mem_of_getElem? (i := 742) (by decide +kernel)⟩
theorem lw_p12 : lw_okq (⟨"PennyMore", "gainByFirst", "(III)I"⟩, 13) := ⟨⟨by decide +kernel, by decide +kernel⟩, List.mem_of_getElem? (i := 22) (by decide +kernel), List.mem_of_getElem? (i := 750) (by decide +kernel), List.mem_of_getElem? (i := 751) (by decide +kernel)⟩
theorem lw_p13 : lw_okq (⟨"PennyMore", "findBestLineup", "(I)I"⟩, 13) := ⟨⟨by decide +kernel, by decide +kernel⟩, List.mem_of_getElem? (i := 22) (by decide +kernel), List.mem_of_getElem? (i := 763) (by decide +kernel), List.mem_of_getElem? (i := 764) (by decide +kernel)⟩
theorem lw_p14 : lw_okq (⟨"PennyMore", "startLineups", "()V"⟩, 13) := ⟨⟨by decide +kernel, by decide +kernel⟩, List.mem_of_getElem? (i := 22) (by decide +kernel), List.mem_of_getElem? (i := 767) (by decide +kernel), List.mem_of_getElem? (i := 768) (by decide +kernel)⟩
theorem lw_p15 : lw_okq (⟨"PennyMore", "standAsLineup", "()V"⟩, 13) := ⟨⟨by decide +kernel, by decide +kernel⟩, List.mem_of_getElem? (i := 22) (by decide +kernel), List.mem_of_getElem? (i := 771) (by decide +kernel), List.mem_of_getElem? (i := 772) (by decide +kernel)⟩
def lw_privs_1 : List (MethodName × Nat) := [(⟨"PennyMore$Shop", "holds", "(II[I)Z"⟩, 10), (⟨"PennyMore", "rowDigits", "(I)I"⟩, 13), (⟨"PennyMore$Reader", "clause", "()Z"⟩, 4), (⟨"PennyMore$Reader", "next", "()I"⟩, 4), (⟨"PennyMore$Reader", "word", "(Ljava/lang/String;)Z"⟩, 4), (⟨"PennyMore$Reader", "number", "()I"⟩, 4), (⟨"PennyMore$Reader", "either", "(I)Z"⟩, 4), (⟨"PennyMore$Reader", "both", "(I)Z"⟩, 4), (⟨"PennyMore$Reader", "factor", "(I)Z"⟩, 4), (⟨"PennyMore$Reader", "test", "()Z"⟩, 4), (⟨"PennyMore", "runTrial", "()V"⟩, 13), (⟨"PennyMore", "whoGetsLoaves", "()I"⟩, 13), (⟨"PennyMore", "gainByFirst", "(III)I"⟩, 13), (⟨"PennyMore", "findBestLineup", "(I)I"⟩, 13), (⟨"PennyMore", "startLineups", "()V"⟩, 13), (⟨"PennyMore", "standAsLineup", "()V"⟩, 13)]
theorem lw_r1 : ∀ q ∈ lw_privs_1, lw_okq q := List.forall_mem_cons.mpr ⟨lw_p0, List.forall_mem_cons.mpr ⟨lw_p1, List.forall_mem_cons.mpr ⟨lw_p2, List.forall_mem_cons.mpr ⟨lw_p3, List.forall_mem_cons.mpr ⟨lw_p4, List.forall_mem_cons.mpr ⟨lw_p5, List.forall_mem_cons.mpr ⟨lw_p6, List.forall_mem_cons.mpr ⟨lw_p7, List.forall_mem_cons.mpr ⟨lw_p8, List.forall_mem_cons.mpr ⟨lw_p9, List.forall_mem_cons.mpr ⟨lw_p10, List.forall_mem_cons.mpr ⟨lw_p11, List.forall_mem_cons.mpr ⟨lw_p12, List.forall_mem_cons.mpr ⟨lw_p13, List.forall_mem_cons.mpr ⟨lw_p14, List.forall_mem_cons.mpr ⟨lw_p15, fun _ h => absurd h List.not_mem_nil⟩⟩⟩⟩⟩⟩⟩⟩⟩⟩⟩⟩⟩⟩⟩⟩
theorem lw_p16 : lw_okq (⟨"PennyMore", "nextLineup", "()Z"⟩, 13) := ⟨⟨by decide +kernel, by decide +kernel⟩, List.mem_of_getElem? (i := 22) (by decide +kernel), List.mem_of_getElem? (i := 776) (by decide +kernel), List.mem_of_getElem? (i := 777) (by decide +kernel)⟩
theorem lw_p17 : lw_okq (⟨"PennyMore", "swapInLineup", "(II)V"⟩, 13) := ⟨⟨by decide +kernel, by decide +kernel⟩, List.mem_of_getElem? (i := 22) (by decide +kernel), List.mem_of_getElem? (i := 780) (by decide +kernel), List.mem_of_getElem? (i := 781) (by decide +kernel)⟩
theorem lw_p18 : lw_okq (⟨"PennyMore", "bothLikeSwap", "(I)Z"⟩, 13) := ⟨⟨by decide +kernel, by decide +kernel⟩, List.mem_of_getElem? (i := 22) (by decide +kernel), List.mem_of_getElem? (i := 788) (by decide +kernel), List.mem_of_getElem? (i := 789) (by decide +kernel)⟩
theorem lw_p19 : lw_okq (⟨"PennyMore", "nobodyRefuses", "(I)Z"⟩, 13) := ⟨⟨by decide +kernel, by decide +kernel⟩, List.mem_of_getElem? (i := 22) (by decide +kernel), List.mem_of_getElem? (i := 804) (by decide +kernel), List.mem_of_getElem? (i := 805) (by decide +kernel)⟩
theorem lw_p20 : lw_okq (⟨"PennyMore", "takersAt", "(I)I"⟩, 13) := ⟨⟨by decide +kernel, by decide +kernel⟩, List.mem_of_getElem? (i := 22) (by decide +kernel), List.mem_of_getElem? (i := 812) (by decide +kernel), List.mem_of_getElem? (i := 813) (by decide +kernel)⟩
theorem lw_p21 : lw_okq (⟨"PennyMore", "weightOf", "(I)J"⟩, 13) := ⟨⟨by decide +kernel, by decide +kernel⟩, List.mem_of_getElem? (i := 22) (by decide +kernel), List.mem_of_getElem? (i := 831) (by decide +kernel), List.mem_of_getElem? (i := 832) (by decide +kernel)⟩
theorem lw_p22 : lw_okq (⟨"PennyMore", "whoSaysYes", "(I)I"⟩, 13) := ⟨⟨by decide +kernel, by decide +kernel⟩, List.mem_of_getElem? (i := 22) (by decide +kernel), List.mem_of_getElem? (i := 835) (by decide +kernel), List.mem_of_getElem? (i := 836) (by decide +kernel)⟩
theorem lw_p23 : lw_okq (⟨"PennyMoreModel", "isBuyer", "(I)Z"⟩, 76) := ⟨⟨by decide +kernel, by decide +kernel⟩, List.mem_of_getElem? (i := 1001) (by decide +kernel), List.mem_of_getElem? (i := 1248) (by decide +kernel), List.mem_of_getElem? (i := 1249) (by decide +kernel)⟩
theorem lw_p24 : lw_okq (⟨"PennyMoreModel", "placeOf", "(I)I"⟩, 76) := ⟨⟨by decide +kernel, by decide +kernel⟩, List.mem_of_getElem? (i := 1001) (by decide +kernel), List.mem_of_getElem? (i := 1252) (by decide +kernel), List.mem_of_getElem? (i := 1253) (by decide +kernel)⟩
theorem lw_p25 : lw_okq (⟨"PennyMoreModel", "valueOf", "(I)I"⟩, 76) := ⟨⟨by decide +kernel, by decide +kernel⟩, List.mem_of_getElem? (i := 1001) (by decide +kernel), List.mem_of_getElem? (i := 1256) (by decide +kernel), List.mem_of_getElem? (i := 1257) (by decide +kernel)⟩
theorem lw_p26 : lw_okq (⟨"PennyMoreModel", "sumOf", "(II)I"⟩, 76) := ⟨⟨by decide +kernel, by decide +kernel⟩, List.mem_of_getElem? (i := 1001) (by decide +kernel), List.mem_of_getElem? (i := 1260) (by decide +kernel), List.mem_of_getElem? (i := 1261) (by decide +kernel)⟩
theorem lw_p27 : lw_okq (⟨"PennyMoreModel", "doesHold", "(II)Z"⟩, 76) := ⟨⟨by decide +kernel, by decide +kernel⟩, List.mem_of_getElem? (i := 1001) (by decide +kernel), List.mem_of_getElem? (i := 1264) (by decide +kernel), List.mem_of_getElem? (i := 1265) (by decide +kernel)⟩
theorem lw_p28 : lw_okq (⟨"PennyMoreModel", "testOf", "(II)I"⟩, 76) := ⟨⟨by decide +kernel, by decide +kernel⟩, List.mem_of_getElem? (i := 1001) (by decide +kernel), List.mem_of_getElem? (i := 1268) (by decide +kernel), List.mem_of_getElem? (i := 1269) (by decide +kernel)⟩
theorem lw_p29 : lw_okq (⟨"PennyMoreModel", "costOf", "(I)I"⟩, 76) := ⟨⟨by decide +kernel, by decide +kernel⟩, List.mem_of_getElem? (i := 1001) (by decide +kernel), List.mem_of_getElem? (i := 1272) (by decide +kernel), List.mem_of_getElem? (i := 1273) (by decide +kernel)⟩
theorem lw_p30 : lw_okq (⟨"PennyMoreModel", "shopRead", "()I"⟩, 76) := ⟨⟨by decide +kernel, by decide +kernel⟩, List.mem_of_getElem? (i := 1001) (by decide +kernel), List.mem_of_getElem? (i := 1305) (by decide +kernel), List.mem_of_getElem? (i := 1306) (by decide +kernel)⟩
theorem lw_p31 : lw_okq (⟨"PennyMoreModel", "clauseRead", "()Z"⟩, 76) := ⟨⟨by decide +kernel, by decide +kernel⟩, List.mem_of_getElem? (i := 1001) (by decide +kernel), List.mem_of_getElem? (i := 1309) (by decide +kernel), List.mem_of_getElem? (i := 1310) (by decide +kernel)⟩
def lw_privs_2 : List (MethodName × Nat) := [(⟨"PennyMore", "nextLineup", "()Z"⟩, 13), (⟨"PennyMore", "swapInLineup", "(II)V"⟩, 13), (⟨"PennyMore", "bothLikeSwap", "(I)Z"⟩, 13), (⟨"PennyMore", "nobodyRefuses", "(I)Z"⟩, 13), (⟨"PennyMore", "takersAt", "(I)I"⟩, 13), (⟨"PennyMore", "weightOf", "(I)J"⟩, 13), (⟨"PennyMore", "whoSaysYes", "(I)I"⟩, 13), (⟨"PennyMoreModel", "isBuyer", "(I)Z"⟩, 76), (⟨"PennyMoreModel", "placeOf", "(I)I"⟩, 76), (⟨"PennyMoreModel", "valueOf", "(I)I"⟩, 76), (⟨"PennyMoreModel", "sumOf", "(II)I"⟩, 76), (⟨"PennyMoreModel", "doesHold", "(II)Z"⟩, 76), (⟨"PennyMoreModel", "testOf", "(II)I"⟩, 76), (⟨"PennyMoreModel", "costOf", "(I)I"⟩, 76), (⟨"PennyMoreModel", "shopRead", "()I"⟩, 76), (⟨"PennyMoreModel", "clauseRead", "()Z"⟩, 76)]
theorem lw_r2 : ∀ q ∈ lw_privs_2, lw_okq q := List.forall_mem_cons.mpr ⟨lw_p16, List.forall_mem_cons.mpr ⟨lw_p17, List.forall_mem_cons.mpr ⟨lw_p18, List.forall_mem_cons.mpr ⟨lw_p19, List.forall_mem_cons.mpr ⟨lw_p20, List.forall_mem_cons.mpr ⟨lw_p21, List.forall_mem_cons.mpr ⟨lw_p22, List.forall_mem_cons.mpr ⟨lw_p23, List.forall_mem_cons.mpr ⟨lw_p24, List.forall_mem_cons.mpr ⟨lw_p25, List.forall_mem_cons.mpr ⟨lw_p26, List.forall_mem_cons.mpr ⟨lw_p27, List.forall_mem_cons.mpr ⟨lw_p28, List.forall_mem_cons.mpr ⟨lw_p29, List.forall_mem_cons.mpr ⟨lw_p30, List.forall_mem_cons.mpr ⟨lw_p31, fun _ h => absurd h List.not_mem_nil⟩⟩⟩⟩⟩⟩⟩⟩⟩⟩⟩⟩⟩⟩⟩⟩
theorem lw_p32 : lw_okq (⟨"PennyMoreModel", "wordRead", "()I"⟩, 76) := ⟨⟨by decide +kernel, by decide +kernel⟩, List.mem_of_getElem? (i := 1001) (by decide +kernel), List.mem_of_getElem? (i := 1313) (by decide +kernel), List.mem_of_getElem? (i := 1314) (by decide +kernel)⟩
theorem lw_p33 : lw_okq (⟨"PennyMoreModel", "sign", "()I"⟩, 76) := ⟨⟨by decide +kernel, by decide +kernel⟩, List.mem_of_getElem? (i := 1001) (by decide +kernel), List.mem_of_getElem? (i := 1317) (by decide +kernel), List.mem_of_getElem? (i := 1318) (by decide +kernel)⟩
theorem lw_p34 : lw_okq (⟨"PennyMoreModel", "goesBy", "(I)Z"⟩, 76) := ⟨⟨by decide +kernel, by decide +kernel⟩, List.mem_of_getElem? (i := 1001) (by decide +kernel), List.mem_of_getElem? (i := 1321) (by decide +kernel), List.mem_of_getElem? (i := 1322) (by decide +kernel)⟩
theorem lw_p35 : lw_okq (⟨"PennyMoreModel", "numberRead", "()I"⟩, 76) := ⟨⟨by decide +kernel, by decide +kernel⟩, List.mem_of_getElem? (i := 1001) (by decide +kernel), List.mem_of_getElem? (i := 1325) (by decide +kernel), List.mem_of_getElem? (i := 1326) (by decide +kernel)⟩
theorem lw_p36 : lw_okq (⟨"PennyMoreModel", "eRead", "()Z"⟩, 76) := ⟨⟨by decide +kernel, by decide +kernel⟩, List.mem_of_getElem? (i := 1001) (by decide +kernel), List.mem_of_getElem? (i := 1332) (by decide +kernel), List.mem_of_getElem? (i := 1333) (by decide +kernel)⟩
theorem lw_p37 : lw_okq (⟨"PennyMoreModel", "opens", "(I)Z"⟩, 76) := ⟨⟨by decide +kernel, by decide +kernel⟩, List.mem_of_getElem? (i := 1001) (by decide +kernel), List.mem_of_getElem? (i := 1336) (by decide +kernel), List.mem_of_getElem? (i := 1337) (by decide +kernel)⟩
theorem lw_p38 : lw_okq (⟨"PennyMoreModel", "testRead", "()Z"⟩, 76) := ⟨⟨by decide +kernel, by decide +kernel⟩, List.mem_of_getElem? (i := 1001) (by decide +kernel), List.mem_of_getElem? (i := 1340) (by decide +kernel), List.mem_of_getElem? (i := 1341) (by decide +kernel)⟩
theorem lw_p39 : lw_okq (⟨"PennyMoreModel", "codes", "(I)V"⟩, 76) := ⟨⟨by decide +kernel, by decide +kernel⟩, List.mem_of_getElem? (i := 1001) (by decide +kernel), List.mem_of_getElem? (i := 1344) (by decide +kernel), List.mem_of_getElem? (i := 1345) (by decide +kernel)⟩
theorem lw_p40 : lw_okq (⟨"PennyMoreModel", "noMoreNots", "()V"⟩, 76) := ⟨⟨by decide +kernel, by decide +kernel⟩, List.mem_of_getElem? (i := 1001) (by decide +kernel), List.mem_of_getElem? (i := 1348) (by decide +kernel), List.mem_of_getElem? (i := 1349) (by decide +kernel)⟩
theorem lw_p41 : lw_okq (⟨"PennyMoreModel", "unwinds", "(I)V"⟩, 76) := ⟨⟨by decide +kernel, by decide +kernel⟩, List.mem_of_getElem? (i := 1001) (by decide +kernel), List.mem_of_getElem? (i := 1352) (by decide +kernel), List.mem_of_getElem? (i := 1353) (by decide +kernel)⟩
theorem lw_p42 : lw_okq (⟨"PennyMoreModel", "lawOf", "(I)I"⟩, 76) := ⟨⟨by decide +kernel, by decide +kernel⟩, List.mem_of_getElem? (i := 1001) (by decide +kernel), List.mem_of_getElem? (i := 1360) (by decide +kernel), List.mem_of_getElem? (i := 1361) (by decide +kernel)⟩
theorem lw_p43 : lw_okq (⟨"PennyMoreModel", "wouldBe", "(I)I"⟩, 76) := ⟨⟨by decide +kernel, by decide +kernel⟩, List.mem_of_getElem? (i := 1001) (by decide +kernel), List.mem_of_getElem? (i := 1368) (by decide +kernel), List.mem_of_getElem? (i := 1369) (by decide +kernel)⟩
theorem lw_p44 : lw_okq (⟨"PennyMoreModel", "asPlain", "(I)I"⟩, 76) := ⟨⟨by decide +kernel, by decide +kernel⟩, List.mem_of_getElem? (i := 1001) (by decide +kernel), List.mem_of_getElem? (i := 1372) (by decide +kernel), List.mem_of_getElem? (i := 1373) (by decide +kernel)⟩
theorem lw_p45 : lw_okq (⟨"PennyMoreModel", "gainOf", "(I)I"⟩, 76) := ⟨⟨by decide +kernel, by decide +kernel⟩, List.mem_of_getElem? (i := 1001) (by decide +kernel), List.mem_of_getElem? (i := 1376) (by decide +kernel), List.mem_of_getElem? (i := 1377) (by decide +kernel)⟩
theorem lw_p46 : lw_okq (⟨"PennyMoreModel", "asWaiting", "(I)I"⟩, 76) := ⟨⟨by decide +kernel, by decide +kernel⟩, List.mem_of_getElem? (i := 1001) (by decide +kernel), List.mem_of_getElem? (i := 1380) (by decide +kernel), List.mem_of_getElem? (i := 1381) (by decide +kernel)⟩
theorem lw_p47 : lw_okq (⟨"PennyMoreModel", "mayAway", "(I)Z"⟩, 76) := ⟨⟨by decide +kernel, by decide +kernel⟩, List.mem_of_getElem? (i := 1001) (by decide +kernel), List.mem_of_getElem? (i := 1384) (by decide +kernel), List.mem_of_getElem? (i := 1385) (by decide +kernel)⟩
def lw_privs_3 : List (MethodName × Nat) := [(⟨"PennyMoreModel", "wordRead", "()I"⟩, 76), (⟨"PennyMoreModel", "sign", "()I"⟩, 76), (⟨"PennyMoreModel", "goesBy", "(I)Z"⟩, 76), (⟨"PennyMoreModel", "numberRead", "()I"⟩, 76), (⟨"PennyMoreModel", "eRead", "()Z"⟩, 76), (⟨"PennyMoreModel", "opens", "(I)Z"⟩, 76), (⟨"PennyMoreModel", "testRead", "()Z"⟩, 76), (⟨"PennyMoreModel", "codes", "(I)V"⟩, 76), (⟨"PennyMoreModel", "noMoreNots", "()V"⟩, 76), (⟨"PennyMoreModel", "unwinds", "(I)V"⟩, 76), (⟨"PennyMoreModel", "lawOf", "(I)I"⟩, 76), (⟨"PennyMoreModel", "wouldBe", "(I)I"⟩, 76), (⟨"PennyMoreModel", "asPlain", "(I)I"⟩, 76), (⟨"PennyMoreModel", "gainOf", "(I)I"⟩, 76), (⟨"PennyMoreModel", "asWaiting", "(I)I"⟩, 76), (⟨"PennyMoreModel", "mayAway", "(I)Z"⟩, 76)]
theorem lw_r3 : ∀ q ∈ lw_privs_3, lw_okq q := List.forall_mem_cons.mpr ⟨lw_p32, List.forall_mem_cons.mpr ⟨lw_p33, List.forall_mem_cons.mpr ⟨lw_p34, List.forall_mem_cons.mpr ⟨lw_p35, List.forall_mem_cons.mpr ⟨lw_p36, List.forall_mem_cons.mpr ⟨lw_p37, List.forall_mem_cons.mpr ⟨lw_p38, List.forall_mem_cons.mpr ⟨lw_p39, List.forall_mem_cons.mpr ⟨lw_p40, List.forall_mem_cons.mpr ⟨lw_p41, List.forall_mem_cons.mpr ⟨lw_p42, List.forall_mem_cons.mpr ⟨lw_p43, List.forall_mem_cons.mpr ⟨lw_p44, List.forall_mem_cons.mpr ⟨lw_p45, List.forall_mem_cons.mpr ⟨lw_p46, List.forall_mem_cons.mpr ⟨lw_p47, fun _ h => absurd h List.not_mem_nil⟩⟩⟩⟩⟩⟩⟩⟩⟩⟩⟩⟩⟩⟩⟩⟩
theorem lw_p48 : lw_okq (⟨"PennyMoreModel", "asBuyer", "(I)I"⟩, 76) := ⟨⟨by decide +kernel, by decide +kernel⟩, List.mem_of_getElem? (i := 1001) (by decide +kernel), List.mem_of_getElem? (i := 1388) (by decide +kernel), List.mem_of_getElem? (i := 1389) (by decide +kernel)⟩
theorem lw_p49 : lw_okq (⟨"PennyMoreModel", "asFalling", "(I)I"⟩, 76) := ⟨⟨by decide +kernel, by decide +kernel⟩, List.mem_of_getElem? (i := 1001) (by decide +kernel), List.mem_of_getElem? (i := 1392) (by decide +kernel), List.mem_of_getElem? (i := 1393) (by decide +kernel)⟩
theorem lw_p50 : lw_okq (⟨"PennyMoreModel", "comes", "()Z"⟩, 76) := ⟨⟨by decide +kernel, by decide +kernel⟩, List.mem_of_getElem? (i := 1001) (by decide +kernel), List.mem_of_getElem? (i := 1400) (by decide +kernel), List.mem_of_getElem? (i := 1401) (by decide +kernel)⟩
theorem lw_p51 : lw_okq (⟨"PennyMoreModel", "does", "(I)V"⟩, 76) := ⟨⟨by decide +kernel, by decide +kernel⟩, List.mem_of_getElem? (i := 1001) (by decide +kernel), List.mem_of_getElem? (i := 1404) (by decide +kernel), List.mem_of_getElem? (i := 1405) (by decide +kernel)⟩
theorem lw_p52 : lw_okq (⟨"PennyMoreModel", "keeps", "()V"⟩, 76) := ⟨⟨by decide +kernel, by decide +kernel⟩, List.mem_of_getElem? (i := 1001) (by decide +kernel), List.mem_of_getElem? (i := 1412) (by decide +kernel), List.mem_of_getElem? (i := 1413) (by decide +kernel)⟩
theorem lw_p53 : lw_okq (⟨"PennyMoreModel", "toTheEnd", "()V"⟩, 76) := ⟨⟨by decide +kernel, by decide +kernel⟩, List.mem_of_getElem? (i := 1001) (by decide +kernel), List.mem_of_getElem? (i := 1416) (by decide +kernel), List.mem_of_getElem? (i := 1417) (by decide +kernel)⟩
theorem lw_p54 : lw_okq (⟨"PennyMoreModel", "lays", "()V"⟩, 76) := ⟨⟨by decide +kernel, by decide +kernel⟩, List.mem_of_getElem? (i := 1001) (by decide +kernel), List.mem_of_getElem? (i := 1420) (by decide +kernel), List.mem_of_getElem? (i := 1421) (by decide +kernel)⟩
theorem lw_p55 : lw_okq (⟨"PennyMoreModel", "allGained", "()I"⟩, 76) := ⟨⟨by decide +kernel, by decide +kernel⟩, List.mem_of_getElem? (i := 1001) (by decide +kernel), List.mem_of_getElem? (i := 1428) (by decide +kernel), List.mem_of_getElem? (i := 1429) (by decide +kernel)⟩
theorem lw_p56 : lw_okq (⟨"PennyMoreModel", "stands", "(I)V"⟩, 76) := ⟨⟨by decide +kernel, by decide +kernel⟩, List.mem_of_getElem? (i := 1001) (by decide +kernel), List.mem_of_getElem? (i := 1439) (by decide +kernel), List.mem_of_getElem? (i := 1440) (by decide +kernel)⟩
theorem lw_p57 : lw_okq (⟨"PennyMoreModel", "othersGain", "(IZ)I"⟩, 76) := ⟨⟨by decide +kernel, by decide +kernel⟩, List.mem_of_getElem? (i := 1001) (by decide +kernel), List.mem_of_getElem? (i := 1468) (by decide +kernel), List.mem_of_getElem? (i := 1469) (by decide +kernel)⟩
theorem lw_p58 : lw_okq (⟨"PennyMoreModel", "slipsOn", "(IIJ)V"⟩, 76) := ⟨⟨by decide +kernel, by decide +kernel⟩, List.mem_of_getElem? (i := 1001) (by decide +kernel), List.mem_of_getElem? (i := 1481) (by decide +kernel), List.mem_of_getElem? (i := 1482) (by decide +kernel)⟩
theorem lw_p59 : lw_okq (⟨"PennyMoreModel", "keepsAt", "(I)V"⟩, 76) := ⟨⟨by decide +kernel, by decide +kernel⟩, List.mem_of_getElem? (i := 1001) (by decide +kernel), List.mem_of_getElem? (i := 1485) (by decide +kernel), List.mem_of_getElem? (i := 1486) (by decide +kernel)⟩
theorem lw_p60 : lw_okq (⟨"PennyMoreModel", "laysAt", "(I)V"⟩, 76) := ⟨⟨by decide +kernel, by decide +kernel⟩, List.mem_of_getElem? (i := 1001) (by decide +kernel), List.mem_of_getElem? (i := 1490) (by decide +kernel), List.mem_of_getElem? (i := 1491) (by decide +kernel)⟩
theorem lw_p61 : lw_okq (⟨"PennyMoreModel", "isTape", "(I)Z"⟩, 76) := ⟨⟨by decide +kernel, by decide +kernel⟩, List.mem_of_getElem? (i := 1001) (by decide +kernel), List.mem_of_getElem? (i := 1506) (by decide +kernel), List.mem_of_getElem? (i := 1507) (by decide +kernel)⟩
theorem lw_p62 : lw_okq (⟨"PennyMoreModel", "bids", "(II)I"⟩, 76) := ⟨⟨by decide +kernel, by decide +kernel⟩, List.mem_of_getElem? (i := 1001) (by decide +kernel), List.mem_of_getElem? (i := 1522) (by decide +kernel), List.mem_of_getElem? (i := 1523) (by decide +kernel)⟩
theorem lw_p63 : lw_okq (⟨"PennyMoreModel", "runs", "(I)V"⟩, 76) := ⟨⟨by decide +kernel, by decide +kernel⟩, List.mem_of_getElem? (i := 1001) (by decide +kernel), List.mem_of_getElem? (i := 1526) (by decide +kernel), List.mem_of_getElem? (i := 1527) (by decide +kernel)⟩
def lw_privs_4 : List (MethodName × Nat) := [(⟨"PennyMoreModel", "asBuyer", "(I)I"⟩, 76), (⟨"PennyMoreModel", "asFalling", "(I)I"⟩, 76), (⟨"PennyMoreModel", "comes", "()Z"⟩, 76), (⟨"PennyMoreModel", "does", "(I)V"⟩, 76), (⟨"PennyMoreModel", "keeps", "()V"⟩, 76), (⟨"PennyMoreModel", "toTheEnd", "()V"⟩, 76), (⟨"PennyMoreModel", "lays", "()V"⟩, 76), (⟨"PennyMoreModel", "allGained", "()I"⟩, 76), (⟨"PennyMoreModel", "stands", "(I)V"⟩, 76), (⟨"PennyMoreModel", "othersGain", "(IZ)I"⟩, 76), (⟨"PennyMoreModel", "slipsOn", "(IIJ)V"⟩, 76), (⟨"PennyMoreModel", "keepsAt", "(I)V"⟩, 76), (⟨"PennyMoreModel", "laysAt", "(I)V"⟩, 76), (⟨"PennyMoreModel", "isTape", "(I)Z"⟩, 76), (⟨"PennyMoreModel", "bids", "(II)I"⟩, 76), (⟨"PennyMoreModel", "runs", "(I)V"⟩, 76)]
theorem lw_r4 : ∀ q ∈ lw_privs_4, lw_okq q := List.forall_mem_cons.mpr ⟨lw_p48, List.forall_mem_cons.mpr ⟨lw_p49, List.forall_mem_cons.mpr ⟨lw_p50, List.forall_mem_cons.mpr ⟨lw_p51, List.forall_mem_cons.mpr ⟨lw_p52, List.forall_mem_cons.mpr ⟨lw_p53, List.forall_mem_cons.mpr ⟨lw_p54, List.forall_mem_cons.mpr ⟨lw_p55, List.forall_mem_cons.mpr ⟨lw_p56, List.forall_mem_cons.mpr ⟨lw_p57, List.forall_mem_cons.mpr ⟨lw_p58, List.forall_mem_cons.mpr ⟨lw_p59, List.forall_mem_cons.mpr ⟨lw_p60, List.forall_mem_cons.mpr ⟨lw_p61, List.forall_mem_cons.mpr ⟨lw_p62, List.forall_mem_cons.mpr ⟨lw_p63, fun _ h => absurd h List.not_mem_nil⟩⟩⟩⟩⟩⟩⟩⟩⟩⟩⟩⟩⟩⟩⟩⟩
theorem lw_p64 : lw_okq (⟨"PennyMoreModel", "waitsIn", "(II)I"⟩, 76) := ⟨⟨by decide +kernel, by decide +kernel⟩, List.mem_of_getElem? (i := 1001) (by decide +kernel), List.mem_of_getElem? (i := 1533) (by decide +kernel), List.mem_of_getElem? (i := 1534) (by decide +kernel)⟩
theorem lw_p65 : lw_okq (⟨"PennyMoreModel", "tellsIn", "(II)I"⟩, 76) := ⟨⟨by decide +kernel, by decide +kernel⟩, List.mem_of_getElem? (i := 1001) (by decide +kernel), List.mem_of_getElem? (i := 1537) (by decide +kernel), List.mem_of_getElem? (i := 1538) (by decide +kernel)⟩
def lw_privs_5 : List (MethodName × Nat) := [(⟨"PennyMoreModel", "waitsIn", "(II)I"⟩, 76), (⟨"PennyMoreModel", "tellsIn", "(II)I"⟩, 76)]
theorem lw_r5 : ∀ q ∈ lw_privs_5, lw_okq q := List.forall_mem_cons.mpr ⟨lw_p64, List.forall_mem_cons.mpr ⟨lw_p65, fun _ h => absurd h List.not_mem_nil⟩⟩
def lw_privs : List (MethodName × Nat) := lw_privs_1 ++ (lw_privs_2 ++ (lw_privs_3 ++ (lw_privs_4 ++ (lw_privs_5))))
def lw_tbl : List Cond := k2_sels lw_privs ++ tables_1
theorem lw_privs_ok : ∀ q ∈ lw_privs, lw_okq q := by
  show ∀ q ∈ lw_privs_1 ++ (lw_privs_2 ++ (lw_privs_3 ++ (lw_privs_4 ++ (lw_privs_5)))), lw_okq q
  exact List.forall_mem_append.mpr ⟨lw_r1, List.forall_mem_append.mpr ⟨lw_r2, List.forall_mem_append.mpr ⟨lw_r3, List.forall_mem_append.mpr ⟨lw_r4, lw_r5⟩⟩⟩⟩
/-! ===== names of the program: classes, fields, methods ===== -/
def RX0 : String := "PennyMore$Buyer"
def TX0 : u_T := fun k => match k with
  | 0 => ("PennyMore$Buyer", "kind", "I", true)
  | 1 => ("PennyMore$Buyer", "number", "I", true)
  | 2 => ("PennyMore$Buyer", "v", "I", true)
  | _ => ("PennyMore$Buyer", "worth", "I", true)
def tyX0 : Nat → FieldType := fun k => match k with
  | 0 => .int
  | 1 => .int
  | 2 => .int
  | _ => .int
theorem nmX0 : ∀ a, a < 4 → ∀ b, b < 4 → a ≠ b → (TX0 a).2.1 ≠ (TX0 b).2.1 := by decide +kernel
theorem tyX0_ok : ∀ k, k < 4 → parseFieldDescriptor (TX0 k).2.2.1 = some (tyX0 k) := by decide +kernel
def RX1 : String := "PennyMore$Day"
def TX1 : u_T := fun k => match k with
  | 0 => ("PennyMore$Day", "buyers", "[LPennyMore$Buyer;", true)
  | 1 => ("PennyMore$Day", "friends", "[I", true)
  | 2 => ("PennyMore$Day", "tells", "[I", true)
  | 3 => ("PennyMore$Day", "aways", "[I", true)
  | 4 => ("PennyMore$Day", "gained", "[I", true)
  | 5 => ("PennyMore$Day", "row", "[I", true)
  | 6 => ("PennyMore$Day", "film", "[I", true)
  | 7 => ("PennyMore$Day", "measures", "[I", true)
  | 8 => ("PennyMore$Day", "shop", "LPennyMore$Shop;", false)
  | 9 => ("PennyMore$Day", "fee", "I", false)
  | 10 => ("PennyMore$Day", "known", "I", false)
  | 11 => ("PennyMore$Day", "standing", "I", false)
  | 12 => ("PennyMore$Day", "price", "I", false)
  | 13 => ("PennyMore$Day", "loaves", "I", false)
  | 14 => ("PennyMore$Day", "till", "I", false)
  | 15 => ("PennyMore$Day", "turns", "I", false)
  | 16 => ("PennyMore$Day", "slips", "I", false)
  | 17 => ("PennyMore$Day", "filmed", "I", false)
  | 18 => ("PennyMore$Day", "value", "I", false)
  | _ => ("PennyMore$Day", "cost", "I", false)
def tyX1 : Nat → FieldType := fun k => match k with
  | 0 => .array (.object "PennyMore$Buyer")
  | 1 => .array .int
  | 2 => .array .int
  | 3 => .array .int
  | 4 => .array .int
  | 5 => .array .int
  | 6 => .array .int
  | 7 => .array .int
  | 8 => .object "PennyMore$Shop"
  | 9 => .int
  | 10 => .int
  | 11 => .int
  | 12 => .int
  | 13 => .int
  | 14 => .int
  | 15 => .int
  | 16 => .int
  | 17 => .int
  | 18 => .int
  | _ => .int
theorem nmX1 : ∀ a, a < 20 → ∀ b, b < 20 → a ≠ b → (TX1 a).2.1 ≠ (TX1 b).2.1 := by decide +kernel
theorem tyX1_ok : ∀ k, k < 20 → parseFieldDescriptor (TX1 k).2.2.1 = some (tyX1 k) := by decide +kernel
def RX2 : String := "PennyMore$Falling"
def TX2 : u_T := fun k => match k with
  | 0 => ("PennyMore$Buyer", "kind", "I", true)
  | 1 => ("PennyMore$Buyer", "number", "I", true)
  | 2 => ("PennyMore$Buyer", "v", "I", true)
  | _ => ("PennyMore$Buyer", "worth", "I", true)
def tyX2 : Nat → FieldType := fun k => match k with
  | 0 => .int
  | 1 => .int
  | 2 => .int
  | _ => .int
theorem nmX2 : ∀ a, a < 4 → ∀ b, b < 4 → a ≠ b → (TX2 a).2.1 ≠ (TX2 b).2.1 := by decide +kernel
theorem tyX2_ok : ∀ k, k < 4 → parseFieldDescriptor (TX2 k).2.2.1 = some (tyX2 k) := by decide +kernel
def RX3 : String := "PennyMore$Late"
def TX3 : u_T := fun k => match k with
  | 0 => ("PennyMore$Buyer", "kind", "I", true)
  | 1 => ("PennyMore$Buyer", "number", "I", true)
  | 2 => ("PennyMore$Buyer", "v", "I", true)
  | _ => ("PennyMore$Buyer", "worth", "I", true)
def tyX3 : Nat → FieldType := fun k => match k with
  | 0 => .int
  | 1 => .int
  | 2 => .int
  | _ => .int
theorem nmX3 : ∀ a, a < 4 → ∀ b, b < 4 → a ≠ b → (TX3 a).2.1 ≠ (TX3 b).2.1 := by decide +kernel
theorem tyX3_ok : ∀ k, k < 4 → parseFieldDescriptor (TX3 k).2.2.1 = some (tyX3 k) := by decide +kernel
def RX4 : String := "PennyMore$Plain"
def TX4 : u_T := fun k => match k with
  | 0 => ("PennyMore$Buyer", "kind", "I", true)
  | 1 => ("PennyMore$Buyer", "number", "I", true)
  | 2 => ("PennyMore$Buyer", "v", "I", true)
  | _ => ("PennyMore$Buyer", "worth", "I", true)
def tyX4 : Nat → FieldType := fun k => match k with
  | 0 => .int
  | 1 => .int
  | 2 => .int
  | _ => .int
theorem nmX4 : ∀ a, a < 4 → ∀ b, b < 4 → a ≠ b → (TX4 a).2.1 ≠ (TX4 b).2.1 := by decide +kernel
theorem tyX4_ok : ∀ k, k < 4 → parseFieldDescriptor (TX4 k).2.2.1 = some (tyX4 k) := by decide +kernel
def RX5 : String := "PennyMore$Reader"
def TX5 : u_T := fun k => match k with
  | 0 => ("PennyMore$Reader", "size", "I", false)
  | 1 => ("PennyMore$Reader", "text", "[I", true)
  | 2 => ("PennyMore$Reader", "at", "I", false)
  | _ => ("PennyMore$Reader", "shop", "LPennyMore$Shop;", false)
def tyX5 : Nat → FieldType := fun k => match k with
  | 0 => .int
  | 1 => .array .int
  | 2 => .int
  | _ => .object "PennyMore$Shop"
theorem nmX5 : ∀ a, a < 4 → ∀ b, b < 4 → a ≠ b → (TX5 a).2.1 ≠ (TX5 b).2.1 := by decide +kernel
theorem tyX5_ok : ∀ k, k < 4 → parseFieldDescriptor (TX5 k).2.2.1 = some (tyX5 k) := by decide +kernel
def RX6 : String := "PennyMore$Shop"
def TX6 : u_T := fun k => match k with
  | 0 => ("PennyMore$Shop", "up", "I", false)
  | 1 => ("PennyMore$Shop", "down", "I", false)
  | 2 => ("PennyMore$Shop", "away", "I", false)
  | 3 => ("PennyMore$Shop", "fee", "I", false)
  | 4 => ("PennyMore$Shop", "sorts", "[I", true)
  | 5 => ("PennyMore$Shop", "amounts", "[I", true)
  | 6 => ("PennyMore$Shop", "ends", "[I", true)
  | 7 => ("PennyMore$Shop", "code", "[I", true)
  | 8 => ("PennyMore$Shop", "clauses", "I", false)
  | _ => ("PennyMore$Shop", "coded", "I", false)
def tyX6 : Nat → FieldType := fun k => match k with
  | 0 => .int
  | 1 => .int
  | 2 => .int
  | 3 => .int
  | 4 => .array .int
  | 5 => .array .int
  | 6 => .array .int
  | 7 => .array .int
  | 8 => .int
  | _ => .int
theorem nmX6 : ∀ a, a < 10 → ∀ b, b < 10 → a ≠ b → (TX6 a).2.1 ≠ (TX6 b).2.1 := by decide +kernel
theorem tyX6_ok : ∀ k, k < 10 → parseFieldDescriptor (TX6 k).2.2.1 = some (tyX6 k) := by decide +kernel
def RX7 : String := "PennyMore$Sure"
def TX7 : u_T := fun k => match k with
  | 0 => ("PennyMore$Buyer", "kind", "I", true)
  | 1 => ("PennyMore$Buyer", "number", "I", true)
  | 2 => ("PennyMore$Buyer", "v", "I", true)
  | _ => ("PennyMore$Buyer", "worth", "I", true)
def tyX7 : Nat → FieldType := fun k => match k with
  | 0 => .int
  | 1 => .int
  | 2 => .int
  | _ => .int
theorem nmX7 : ∀ a, a < 4 → ∀ b, b < 4 → a ≠ b → (TX7 a).2.1 ≠ (TX7 b).2.1 := by decide +kernel
theorem tyX7_ok : ∀ k, k < 4 → parseFieldDescriptor (TX7 k).2.2.1 = some (tyX7 k) := by decide +kernel
def RX8 : String := "PennyMore$Tape"
def TX8 : u_T := fun k => match k with
  | 0 => ("PennyMore$Tape", "items", "[J", true)
  | 1 => ("PennyMore$Tape", "sort", "I", false)
  | _ => ("PennyMore$Tape", "size", "I", false)
def tyX8 : Nat → FieldType := fun k => match k with
  | 0 => .array .long
  | 1 => .int
  | _ => .int
theorem nmX8 : ∀ a, a < 3 → ∀ b, b < 3 → a ≠ b → (TX8 a).2.1 ≠ (TX8 b).2.1 := by decide +kernel
theorem tyX8_ok : ∀ k, k < 3 → parseFieldDescriptor (TX8 k).2.2.1 = some (tyX8 k) := by decide +kernel
def RX9 : String := "PennyMore$Told"
def TX9 : u_T := fun k => match k with
  | 0 => ("PennyMore$Buyer", "kind", "I", true)
  | 1 => ("PennyMore$Buyer", "number", "I", true)
  | 2 => ("PennyMore$Buyer", "v", "I", true)
  | _ => ("PennyMore$Buyer", "worth", "I", true)
def tyX9 : Nat → FieldType := fun k => match k with
  | 0 => .int
  | 1 => .int
  | 2 => .int
  | _ => .int
theorem nmX9 : ∀ a, a < 4 → ∀ b, b < 4 → a ≠ b → (TX9 a).2.1 ≠ (TX9 b).2.1 := by decide +kernel
theorem tyX9_ok : ∀ k, k < 4 → parseFieldDescriptor (TX9 k).2.2.1 = some (tyX9 k) := by decide +kernel
def RX10 : String := "PennyMore$Waiting"
def TX10 : u_T := fun k => match k with
  | 0 => ("PennyMore$Buyer", "kind", "I", true)
  | 1 => ("PennyMore$Buyer", "number", "I", true)
  | 2 => ("PennyMore$Buyer", "v", "I", true)
  | _ => ("PennyMore$Buyer", "worth", "I", true)
def tyX10 : Nat → FieldType := fun k => match k with
  | 0 => .int
  | 1 => .int
  | 2 => .int
  | _ => .int
theorem nmX10 : ∀ a, a < 4 → ∀ b, b < 4 → a ≠ b → (TX10 a).2.1 ≠ (TX10 b).2.1 := by decide +kernel
theorem tyX10_ok : ∀ k, k < 4 → parseFieldDescriptor (TX10 k).2.2.1 = some (tyX10 k) := by decide +kernel
def RX11 : String := "PennyMore"
def TX11 : u_T := fun k => match k with
  | 0 => ("PennyMore", "now", "LPennyMore$Day;", true)
  | 1 => ("PennyMore", "image", "LPennyMore$Day;", true)
  | 2 => ("PennyMore", "trial", "LPennyMore$Day;", true)
  | 3 => ("PennyMore", "base", "LPennyMore$Day;", true)
  | 4 => ("PennyMore", "shops", "[LPennyMore$Shop;", true)
  | 5 => ("PennyMore", "reader", "LPennyMore$Reader;", true)
  | 6 => ("PennyMore", "tapes", "[LPennyMore$Tape;", true)
  | 7 => ("PennyMore", "ran", "[I", true)
  | 8 => ("PennyMore", "lineup", "[I", true)
  | 9 => ("PennyMore", "bestLineup", "[I", true)
  | 10 => ("PennyMore", "values", "[I", true)
  | 11 => ("PennyMore", "shopsRead", "I", false)
  | _ => ("PennyMore", "imageTaken", "Z", false)
def tyX11 : Nat → FieldType := fun k => match k with
  | 0 => .object "PennyMore$Day"
  | 1 => .object "PennyMore$Day"
  | 2 => .object "PennyMore$Day"
  | 3 => .object "PennyMore$Day"
  | 4 => .array (.object "PennyMore$Shop")
  | 5 => .object "PennyMore$Reader"
  | 6 => .array (.object "PennyMore$Tape")
  | 7 => .array .int
  | 8 => .array .int
  | 9 => .array .int
  | 10 => .array .int
  | 11 => .int
  | _ => .boolean
theorem nmX11 : ∀ a, a < 13 → ∀ b, b < 13 → a ≠ b → (TX11 a).2.1 ≠ (TX11 b).2.1 := by decide +kernel
theorem tyX11_ok : ∀ k, k < 13 → parseFieldDescriptor (TX11 k).2.2.1 = some (tyX11 k) := by decide +kernel
def RX12 : String := "PennyMoreModel"
def TX12 : u_T := fun k => match k with
  | 0 => ("PennyMoreModel", "buyers", "I", false)
  | 1 => ("PennyMoreModel", "kind", "[I", true)
  | 2 => ("PennyMoreModel", "number", "[I", true)
  | 3 => ("PennyMoreModel", "worth", "[I", true)
  | 4 => ("PennyMoreModel", "friend", "[I", true)
  | 5 => ("PennyMoreModel", "aways", "[I", true)
  | 6 => ("PennyMoreModel", "gained", "[I", true)
  | 7 => ("PennyMoreModel", "tells", "[I", true)
  | 8 => ("PennyMoreModel", "inRow", "I", false)
  | 9 => ("PennyMoreModel", "row", "[I", true)
  | 10 => ("PennyMoreModel", "price", "I", false)
  | 11 => ("PennyMoreModel", "loaves", "I", false)
  | 12 => ("PennyMoreModel", "till", "I", false)
  | 13 => ("PennyMoreModel", "turns", "I", false)
  | 14 => ("PennyMoreModel", "odds", "I", false)
  | 15 => ("PennyMoreModel", "filmed", "I", false)
  | 16 => ("PennyMoreModel", "film", "[I", true)
  | 17 => ("PennyMoreModel", "shops", "I", false)
  | 18 => ("PennyMoreModel", "holding", "I", false)
  | 19 => ("PennyMoreModel", "clauses", "[I", true)
  | 20 => ("PennyMoreModel", "clauseWord", "[I", true)
  | 21 => ("PennyMoreModel", "clauseN", "[I", true)
  | 22 => ("PennyMoreModel", "clauseFrom", "[I", true)
  | 23 => ("PennyMoreModel", "clauseTo", "[I", true)
  | 24 => ("PennyMoreModel", "codes", "[I", true)
  | 25 => ("PennyMoreModel", "text", "[I", true)
  | 26 => ("PennyMoreModel", "written", "I", false)
  | 27 => ("PennyMoreModel", "feeFor", "I", false)
  | 28 => ("PennyMoreModel", "ran", "I", false)
  | 29 => ("PennyMoreModel", "trace", "[I", true)
  | 30 => ("PennyMoreModel", "tapeSort", "[I", true)
  | 31 => ("PennyMoreModel", "tapeSize", "[I", true)
  | 32 => ("PennyMoreModel", "items", "[J", true)
  | 33 => ("PennyMoreModel", "words", "[I", true)
  | 34 => ("PennyMoreModel", "wordLong", "[I", true)
  | 35 => ("PennyMoreModel", "letters", "[I", true)
  | 36 => ("PennyMoreModel", "at0", "I", false)
  | 37 => ("PennyMoreModel", "coded", "I", false)
  | 38 => ("PennyMoreModel", "waits", "[I", true)
  | 39 => ("PennyMoreModel", "waitMany", "I", false)
  | 40 => ("PennyMoreModel", "opened", "I", false)
  | 41 => ("PennyMoreModel", "stack", "[Z", true)
  | 42 => ("PennyMoreModel", "bought", "I", false)
  | 43 => ("PennyMoreModel", "refused", "I", false)
  | 44 => ("PennyMoreModel", "keptRow", "[I", true)
  | 45 => ("PennyMoreModel", "keptAways", "[I", true)
  | 46 => ("PennyMoreModel", "keptGained", "[I", true)
  | 47 => ("PennyMoreModel", "keptIn", "I", false)
  | 48 => ("PennyMoreModel", "keptPrice", "I", false)
  | 49 => ("PennyMoreModel", "keptLoaves", "I", false)
  | 50 => ("PennyMoreModel", "keptTill", "I", false)
  | 51 => ("PennyMoreModel", "keptTurns", "I", false)
  | 52 => ("PennyMoreModel", "sorted", "[I", true)
  | 53 => ("PennyMoreModel", "sureAbove", "J", false)
  | 54 => ("PennyMoreModel", "tooLong", "Z", false)
  | 55 => ("PennyMoreModel", "deepRow", "[I", true)
  | 56 => ("PennyMoreModel", "deepAways", "[I", true)
  | 57 => ("PennyMoreModel", "deepGained", "[I", true)
  | 58 => ("PennyMoreModel", "deepNumbers", "[I", true)
  | 59 => ("PennyMoreModel", "hasImage", "Z", false)
  | 60 => ("PennyMoreModel", "imageBuyers", "I", false)
  | 61 => ("PennyMoreModel", "imageOdds", "I", false)
  | 62 => ("PennyMoreModel", "imageFilmed", "I", false)
  | 63 => ("PennyMoreModel", "imageHolding", "I", false)
  | 64 => ("PennyMoreModel", "imageKind", "[I", true)
  | 65 => ("PennyMoreModel", "imageNumber", "[I", true)
  | 66 => ("PennyMoreModel", "imageWorth", "[I", true)
  | 67 => ("PennyMoreModel", "imageFriend", "[I", true)
  | 68 => ("PennyMoreModel", "imageAways", "[I", true)
  | 69 => ("PennyMoreModel", "imageGained", "[I", true)
  | 70 => ("PennyMoreModel", "imageTells", "[I", true)
  | 71 => ("PennyMoreModel", "imageRow", "[I", true)
  | 72 => ("PennyMoreModel", "imageNumbers", "[I", true)
  | 73 => ("PennyMoreModel", "imageFilm", "[I", true)
  | 74 => ("PennyMoreModel", "acting", "I", false)
  | _ => ("PennyMoreModel", "shifted", "[J", true)
def tyX12 : Nat → FieldType := fun k => match k with
  | 0 => .int
  | 1 => .array .int
  | 2 => .array .int
  | 3 => .array .int
  | 4 => .array .int
  | 5 => .array .int
  | 6 => .array .int
  | 7 => .array .int
  | 8 => .int
  | 9 => .array .int
  | 10 => .int
  | 11 => .int
  | 12 => .int
  | 13 => .int
  | 14 => .int
  | 15 => .int
  | 16 => .array .int
  | 17 => .int
  | 18 => .int
  | 19 => .array .int
  | 20 => .array .int
  | 21 => .array .int
  | 22 => .array .int
  | 23 => .array .int
  | 24 => .array .int
  | 25 => .array .int
  | 26 => .int
  | 27 => .int
  | 28 => .int
  | 29 => .array .int
  | 30 => .array .int
  | 31 => .array .int
  | 32 => .array .long
  | 33 => .array .int
  | 34 => .array .int
  | 35 => .array .int
  | 36 => .int
  | 37 => .int
  | 38 => .array .int
  | 39 => .int
  | 40 => .int
  | 41 => .array .boolean
  | 42 => .int
  | 43 => .int
  | 44 => .array .int
  | 45 => .array .int
  | 46 => .array .int
  | 47 => .int
  | 48 => .int
  | 49 => .int
  | 50 => .int
  | 51 => .int
  | 52 => .array .int
  | 53 => .long
  | 54 => .boolean
  | 55 => .array .int
  | 56 => .array .int
  | 57 => .array .int
  | 58 => .array .int
  | 59 => .boolean
  | 60 => .int
  | 61 => .int
  | 62 => .int
  | 63 => .int
  | 64 => .array .int
  | 65 => .array .int
  | 66 => .array .int
  | 67 => .array .int
  | 68 => .array .int
  | 69 => .array .int
  | 70 => .array .int
  | 71 => .array .int
  | 72 => .array .int
  | 73 => .array .int
  | 74 => .int
  | _ => .array .long
theorem nmX12 : ∀ a, a < 76 → ∀ b, b < 76 → a ≠ b → (TX12 a).2.1 ≠ (TX12 b).2.1 := by decide +kernel
theorem tyX12_ok : ∀ k, k < 76 → parseFieldDescriptor (TX12 k).2.2.1 = some (tyX12 k) := by decide +kernel
def RJ9 : String := "java/lang/Math"
def RJ0 : String := "java/lang/String"
def RJ1 : String := "java/lang/StringLatin1"
def RJ3 : String := "jdk/internal/util/Preconditions"
def RL : String := "PennyMoreLaw"
def mm_G : List Cond := lw_tbl.filter goodWord
theorem mm_gi {i : Nat} {w : Cond} (h : lw_tbl[i]? = some w) (hg : goodWord w = true) : w ∈ mm_G := List.mem_filter.mpr ⟨List.mem_of_getElem? h, hg⟩
theorem mm_ti_1 {i : Nat} {w : Cond} (h : tables_1_1[i]? = some w) : w ∈ lw_tbl := List.mem_append_right _ (List.mem_append_left _ (List.mem_of_getElem? h))
theorem mm_gi_1 {i : Nat} {w : Cond} (h : tables_1_1[i]? = some w) (hg : goodWord w = true) : w ∈ mm_G := List.mem_filter.mpr ⟨mm_ti_1 h, hg⟩
theorem mm_ti_2 {i : Nat} {w : Cond} (h : tables_1_2[i]? = some w) : w ∈ lw_tbl := List.mem_append_right _ (List.mem_append_right _ (List.mem_append_left _ (List.mem_of_getElem? h)))
theorem mm_gi_2 {i : Nat} {w : Cond} (h : tables_1_2[i]? = some w) (hg : goodWord w = true) : w ∈ mm_G := List.mem_filter.mpr ⟨mm_ti_2 h, hg⟩
theorem mm_ti_3 {i : Nat} {w : Cond} (h : tables_1_3[i]? = some w) : w ∈ lw_tbl := List.mem_append_right _ (List.mem_append_right _ (List.mem_append_right _ (List.mem_append_left _ (List.mem_of_getElem? h))))
theorem mm_gi_3 {i : Nat} {w : Cond} (h : tables_1_3[i]? = some w) (hg : goodWord w = true) : w ∈ mm_G := List.mem_filter.mpr ⟨mm_ti_3 h, hg⟩
theorem mm_ti_4 {i : Nat} {w : Cond} (h : tables_1_4[i]? = some w) : w ∈ lw_tbl := List.mem_append_right _ (List.mem_append_right _ (List.mem_append_right _ (List.mem_append_right _ (List.mem_append_left _ (List.mem_of_getElem? h)))))
theorem mm_gi_4 {i : Nat} {w : Cond} (h : tables_1_4[i]? = some w) (hg : goodWord w = true) : w ∈ mm_G := List.mem_filter.mpr ⟨mm_ti_4 h, hg⟩
theorem mm_ti_5 {i : Nat} {w : Cond} (h : tables_1_5[i]? = some w) : w ∈ lw_tbl := List.mem_append_right _ (List.mem_append_right _ (List.mem_append_right _ (List.mem_append_right _ (List.mem_append_right _ (List.mem_append_left _ (List.mem_of_getElem? h))))))
theorem mm_gi_5 {i : Nat} {w : Cond} (h : tables_1_5[i]? = some w) (hg : goodWord w = true) : w ∈ mm_G := List.mem_filter.mpr ⟨mm_ti_5 h, hg⟩
theorem mm_ti_6 {i : Nat} {w : Cond} (h : tables_1_6[i]? = some w) : w ∈ lw_tbl := List.mem_append_right _ (List.mem_append_right _ (List.mem_append_right _ (List.mem_append_right _ (List.mem_append_right _ (List.mem_append_right _ (List.mem_append_left _ (List.mem_of_getElem? h)))))))
theorem mm_gi_6 {i : Nat} {w : Cond} (h : tables_1_6[i]? = some w) (hg : goodWord w = true) : w ∈ mm_G := List.mem_filter.mpr ⟨mm_ti_6 h, hg⟩
theorem mm_ti_7 {i : Nat} {w : Cond} (h : tables_1_7[i]? = some w) : w ∈ lw_tbl := List.mem_append_right _ (List.mem_append_right _ (List.mem_append_right _ (List.mem_append_right _ (List.mem_append_right _ (List.mem_append_right _ (List.mem_append_right _ (List.mem_of_getElem? h)))))))
theorem mm_gi_7 {i : Nat} {w : Cond} (h : tables_1_7[i]? = some w) (hg : goodWord w = true) : w ∈ mm_G := List.mem_filter.mpr ⟨mm_ti_7 h, hg⟩
theorem mm_Ggood {ws : List Cond} (h : ∀ w ∈ ws, w ∈ mm_G) : GoodIn mm_G ws := fun w hw => ⟨h w hw, good_of_word (List.mem_filter.mp (h w hw)).2⟩
def mm_cn (c : Nat) : String := ["PennyMore$Buyer", "PennyMore$Day", "PennyMore$Falling", "PennyMore$Late", "PennyMore$Plain", "PennyMore$Reader", "PennyMore$Shop", "PennyMore$Sure", "PennyMore$Tape", "PennyMore$Told", "PennyMore$Waiting", "PennyMore", "PennyMoreModel", "java/lang/String", "java/lang/StringLatin1", "jdk/internal/util/Preconditions", "java/lang/Math", "PennyMoreLaw"].getD c ""
abbrev mm_mT : Type := MethodName × ByteArray × Nat × Option FieldType × Nat
def mm_mt_0 : List mm_mT := [(⟨"PennyMore$Buyer", "<init>", "(IIII)V"⟩, prog_2_method_1_code, 5, none, 0), (⟨"PennyMore$Buyer", "note", "([II)V"⟩, prog_2_method_2_code, 2, none, 0), (⟨"PennyMore$Buyer", "does", "(LPennyMore$Day;)I"⟩, prog_2_method_3_code, 2, some (Jvm.ClassFile.FieldType.int), 0), (⟨"PennyMore$Buyer", "bids", "(I[I)I"⟩, prog_2_method_4_code, 3, some (Jvm.ClassFile.FieldType.int), 0), (⟨"PennyMore$Buyer", "waits", "(I[I)I"⟩, prog_2_method_5_code, 3, some (Jvm.ClassFile.FieldType.int), 0), (⟨"PennyMore$Buyer", "tells", "(I[I)I"⟩, prog_2_method_6_code, 3, some (Jvm.ClassFile.FieldType.int), 0), (⟨"PennyMore$Day", "<init>", "(LPennyMore$Shop;)V"⟩, prog_3_method_1_code, 2, none, 1), (⟨"PennyMore$Day", "copyOf", "(LPennyMore$Day;)V"⟩, prog_3_method_2_code, 3, none, 1), (⟨"PennyMore$Day", "knows", "(I)Z"⟩, prog_3_method_3_code, 2, some (Jvm.ClassFile.FieldType.boolean), 1), (⟨"PennyMore$Day", "welcome", "(LPennyMore$Buyer;)V"⟩, prog_3_method_4_code, 4, none, 1), (⟨"PennyMore$Day", "open", "(LPennyMore$Shop;)V"⟩, prog_3_method_5_code, 2, none, 1), (⟨"PennyMore$Day", "head", "()I"⟩, prog_3_method_6_code, 1, some (Jvm.ClassFile.FieldType.int), 1), (⟨"PennyMore$Day", "placeOf", "(I)I"⟩, prog_3_method_7_code, 3, some (Jvm.ClassFile.FieldType.int), 1), (⟨"PennyMore$Day", "stand", "(I)V"⟩, prog_3_method_8_code, 2, none, 1), (⟨"PennyMore$Day", "leave", "(I)V"⟩, prog_3_method_9_code, 3, none, 1), (⟨"PennyMore$Day", "putAhead", "(I)V"⟩, prog_3_method_10_code, 3, none, 1), (⟨"PennyMore$Day", "mayGoAway", "(I)Z"⟩, prog_3_method_11_code, 2, some (Jvm.ClassFile.FieldType.boolean), 1), (⟨"PennyMore$Day", "friendStands", "(I)Z"⟩, prog_3_method_12_code, 2, some (Jvm.ClassFile.FieldType.boolean), 1), (⟨"PennyMore$Day", "gainOfYes", "()I"⟩, prog_3_method_13_code, 1, some (Jvm.ClassFile.FieldType.int), 1), (⟨"PennyMore$Day", "weigh", "(I)V"⟩, prog_3_method_14_code, 2, none, 1), (⟨"PennyMore$Day", "turnComes", "()Z"⟩, prog_3_method_15_code, 1, some (Jvm.ClassFile.FieldType.boolean), 1), (⟨"PennyMore$Day", "turn", "()I"⟩, prog_3_method_16_code, 3, some (Jvm.ClassFile.FieldType.int), 1), (⟨"PennyMore$Day", "carryOut", "(I)V"⟩, prog_3_method_17_code, 3, none, 1), (⟨"PennyMore$Day", "toEnd", "()V"⟩, prog_3_method_18_code, 2, none, 1), (⟨"PennyMore$Day", "gainedByAll", "()I"⟩, prog_3_method_19_code, 3, some (Jvm.ClassFile.FieldType.int), 1), (⟨"PennyMore$Falling", "<init>", "(IIII)V"⟩, prog_4_method_1_code, 5, none, 2), (⟨"PennyMore$Falling", "does", "(LPennyMore$Day;)I"⟩, prog_4_method_2_code, 2, some (Jvm.ClassFile.FieldType.int), 2), (⟨"PennyMore$Falling", "tells", "(I[I)I"⟩, prog_4_method_3_code, 3, some (Jvm.ClassFile.FieldType.int), 2), (⟨"PennyMore$Late", "<init>", "(IIII)V"⟩, prog_5_method_1_code, 5, none, 3), (⟨"PennyMore$Late", "does", "(LPennyMore$Day;)I"⟩, prog_5_method_2_code, 2, some (Jvm.ClassFile.FieldType.int), 3), (⟨"PennyMore$Late", "tells", "(I[I)I"⟩, prog_5_method_3_code, 3, some (Jvm.ClassFile.FieldType.int), 3), (⟨"PennyMore$Plain", "<init>", "(IIII)V"⟩, prog_6_method_1_code, 5, none, 4), (⟨"PennyMore$Plain", "does", "(LPennyMore$Day;)I"⟩, prog_6_method_2_code, 2, some (Jvm.ClassFile.FieldType.int), 4), (⟨"PennyMore$Plain", "waits", "(I[I)I"⟩, prog_6_method_3_code, 3, some (Jvm.ClassFile.FieldType.int), 4), (⟨"PennyMore$Reader", "<init>", "()V"⟩, prog_7_method_1_code, 1, none, 5), (⟨"PennyMore$Reader", "add", "(I)Z"⟩, prog_7_method_2_code, 2, some (Jvm.ClassFile.FieldType.boolean), 5), (⟨"PennyMore$Reader", "empty", "()V"⟩, prog_7_method_3_code, 1, none, 5), (⟨"PennyMore$Reader", "readInto", "(LPennyMore$Shop;)I"⟩, prog_7_method_4_code, 3, some (Jvm.ClassFile.FieldType.int), 5), (⟨"PennyMore$Reader", "next", "()I"⟩, prog_7_method_5_code, 1, some (Jvm.ClassFile.FieldType.int), 5), (⟨"PennyMore$Reader", "word", "(Ljava/lang/String;)Z"⟩, prog_7_method_6_code, 3, some (Jvm.ClassFile.FieldType.boolean), 5)]
def mm_mt_1 : List mm_mT := [(⟨"PennyMore$Reader", "wordOf", "(I)Ljava/lang/String;"⟩, prog_7_method_7_code, 1, some ((Jvm.ClassFile.FieldType.object "java/lang/String")), 5), (⟨"PennyMore$Reader", "clause", "()Z"⟩, prog_7_method_8_code, 4, some (Jvm.ClassFile.FieldType.boolean), 5), (⟨"PennyMore$Reader", "either", "(I)Z"⟩, prog_7_method_9_code, 2, some (Jvm.ClassFile.FieldType.boolean), 5), (⟨"PennyMore$Reader", "both", "(I)Z"⟩, prog_7_method_10_code, 2, some (Jvm.ClassFile.FieldType.boolean), 5), (⟨"PennyMore$Reader", "factor", "(I)Z"⟩, prog_7_method_11_code, 3, some (Jvm.ClassFile.FieldType.boolean), 5), (⟨"PennyMore$Reader", "test", "()Z"⟩, prog_7_method_12_code, 4, some (Jvm.ClassFile.FieldType.boolean), 5), (⟨"PennyMore$Reader", "number", "()I"⟩, prog_7_method_13_code, 3, some (Jvm.ClassFile.FieldType.int), 5), (⟨"PennyMore$Shop", "<init>", "()V"⟩, prog_8_method_1_code, 1, none, 6), (⟨"PennyMore$Shop", "clear", "()V"⟩, prog_8_method_2_code, 1, none, 6), (⟨"PennyMore$Shop", "putCode", "(I)V"⟩, prog_8_method_3_code, 2, none, 6), (⟨"PennyMore$Shop", "codeOf", "(III)I"⟩, prog_8_method_4_code, 3, some (Jvm.ClassFile.FieldType.int), 6), (⟨"PennyMore$Shop", "putClause", "(II)V"⟩, prog_8_method_5_code, 3, none, 6), (⟨"PennyMore$Shop", "sumOf", "(I[I)I"⟩, prog_8_method_6_code, 6, some (Jvm.ClassFile.FieldType.int), 6), (⟨"PennyMore$Shop", "holds", "(II[I)Z"⟩, prog_8_method_7_code, 6, some (Jvm.ClassFile.FieldType.boolean), 6), (⟨"PennyMore$Shop", "passes", "(I[I)Z"⟩, prog_8_method_8_code, 5, some (Jvm.ClassFile.FieldType.boolean), 6), (⟨"PennyMore$Sure", "<init>", "(IIII)V"⟩, prog_9_method_1_code, 5, none, 7), (⟨"PennyMore$Sure", "does", "(LPennyMore$Day;)I"⟩, prog_9_method_2_code, 2, some (Jvm.ClassFile.FieldType.int), 7), (⟨"PennyMore$Sure", "bids", "(I[I)I"⟩, prog_9_method_3_code, 3, some (Jvm.ClassFile.FieldType.int), 7), (⟨"PennyMore$Sure", "waits", "(I[I)I"⟩, prog_9_method_4_code, 3, some (Jvm.ClassFile.FieldType.int), 7), (⟨"PennyMore$Tape", "<init>", "()V"⟩, prog_10_method_1_code, 1, none, 8), (⟨"PennyMore$Tape", "become", "(II)V"⟩, prog_10_method_2_code, 4, none, 8), (⟨"PennyMore$Tape", "holdsNothing", "()Z"⟩, prog_10_method_3_code, 1, some (Jvm.ClassFile.FieldType.boolean), 8), (⟨"PennyMore$Tape", "hasPlace", "(I)Z"⟩, prog_10_method_4_code, 2, some (Jvm.ClassFile.FieldType.boolean), 8), (⟨"PennyMore$Tape", "hasStretch", "(II)Z"⟩, prog_10_method_5_code, 3, some (Jvm.ClassFile.FieldType.boolean), 8), (⟨"PennyMore$Tape", "narrowed", "(J)J"⟩, prog_10_method_6_code, 3, some (Jvm.ClassFile.FieldType.long), 8), (⟨"PennyMore$Told", "<init>", "(IIII)V"⟩, prog_11_method_1_code, 5, none, 9), (⟨"PennyMore$Told", "does", "(LPennyMore$Day;)I"⟩, prog_11_method_2_code, 4, some (Jvm.ClassFile.FieldType.int), 9), (⟨"PennyMore$Told", "waits", "(I[I)I"⟩, prog_11_method_3_code, 3, some (Jvm.ClassFile.FieldType.int), 9), (⟨"PennyMore$Told", "bids", "(I[I)I"⟩, prog_11_method_4_code, 3, some (Jvm.ClassFile.FieldType.int), 9), (⟨"PennyMore$Waiting", "<init>", "(IIII)V"⟩, prog_12_method_1_code, 5, none, 10), (⟨"PennyMore$Waiting", "does", "(LPennyMore$Day;)I"⟩, prog_12_method_2_code, 2, some (Jvm.ClassFile.FieldType.int), 10), (⟨"PennyMore$Waiting", "bids", "(I[I)I"⟩, prog_12_method_3_code, 3, some (Jvm.ClassFile.FieldType.int), 10), (⟨"PennyMore", "<init>", "()V"⟩, prog_1_method_1_code, 3, none, 11), (⟨"PennyMore", "buyer", "(III)I"⟩, prog_1_method_2_code, 5, some (Jvm.ClassFile.FieldType.int), 11), (⟨"PennyMore", "of", "(II)I"⟩, prog_1_method_3_code, 4, some (Jvm.ClassFile.FieldType.int), 11), (⟨"PennyMore", "gained", "(I)I"⟩, prog_1_method_4_code, 2, some (Jvm.ClassFile.FieldType.int), 11), (⟨"PennyMore", "friend", "(II)I"⟩, prog_1_method_5_code, 5, some (Jvm.ClassFile.FieldType.int), 11), (⟨"PennyMore", "row", "(III)I"⟩, prog_1_method_6_code, 6, some (Jvm.ClassFile.FieldType.int), 11), (⟨"PennyMore", "back", "(I)I"⟩, prog_1_method_7_code, 2, some (Jvm.ClassFile.FieldType.int), 11), (⟨"PennyMore", "set", "(II)I"⟩, prog_1_method_8_code, 4, some (Jvm.ClassFile.FieldType.int), 11)]
def mm_mt_2 : List mm_mT := [(⟨"PennyMore", "feed", "(I)I"⟩, prog_1_method_9_code, 2, some (Jvm.ClassFile.FieldType.int), 11), (⟨"PennyMore", "shop", "()I"⟩, prog_1_method_10_code, 4, some (Jvm.ClassFile.FieldType.int), 11), (⟨"PennyMore", "told", "(I)I"⟩, prog_1_method_11_code, 2, some (Jvm.ClassFile.FieldType.int), 11), (⟨"PennyMore", "would", "(I)I"⟩, prog_1_method_12_code, 2, some (Jvm.ClassFile.FieldType.int), 11), (⟨"PennyMore", "go", "()I"⟩, prog_1_method_13_code, 1, some (Jvm.ClassFile.FieldType.int), 11), (⟨"PennyMore", "run", "(I)I"⟩, prog_1_method_14_code, 2, some (Jvm.ClassFile.FieldType.int), 11), (⟨"PennyMore", "first", "(I)I"⟩, prog_1_method_15_code, 7, some (Jvm.ClassFile.FieldType.int), 11), (⟨"PennyMore", "order", "(II)I"⟩, prog_1_method_16_code, 4, some (Jvm.ClassFile.FieldType.int), 11), (⟨"PennyMore", "letBy", "(I)I"⟩, prog_1_method_17_code, 5, some (Jvm.ClassFile.FieldType.int), 11), (⟨"PennyMore", "lot", "(I)J"⟩, prog_1_method_18_code, 8, some (Jvm.ClassFile.FieldType.long), 11), (⟨"PennyMore", "fee", "()I"⟩, prog_1_method_19_code, 2, some (Jvm.ClassFile.FieldType.int), 11), (⟨"PennyMore", "onePrice", "(I)I"⟩, prog_1_method_20_code, 6, some (Jvm.ClassFile.FieldType.int), 11), (⟨"PennyMore", "aunt", "(I)I"⟩, prog_1_method_21_code, 6, some (Jvm.ClassFile.FieldType.int), 11), (⟨"PennyMore", "slips", "(I)I"⟩, prog_1_method_22_code, 3, some (Jvm.ClassFile.FieldType.int), 11), (⟨"PennyMore", "sure", "(II)J"⟩, prog_1_method_23_code, 12, some (Jvm.ClassFile.FieldType.long), 11), (⟨"PennyMore", "film", "(I)I"⟩, prog_1_method_24_code, 2, some (Jvm.ClassFile.FieldType.int), 11), (⟨"PennyMore", "off", "()I"⟩, prog_1_method_25_code, 2, some (Jvm.ClassFile.FieldType.int), 11), (⟨"PennyMore", "judge", "(II)I"⟩, prog_1_method_26_code, 5, some (Jvm.ClassFile.FieldType.int), 11), (⟨"PennyMore", "image", "()I"⟩, prog_1_method_27_code, 1, some (Jvm.ClassFile.FieldType.int), 11), (⟨"PennyMore", "undo", "()I"⟩, prog_1_method_28_code, 1, some (Jvm.ClassFile.FieldType.int), 11), (⟨"PennyMore", "act", "(III)I"⟩, prog_1_method_29_code, 4, some (Jvm.ClassFile.FieldType.int), 11), (⟨"PennyMore", "trace", "(I)I"⟩, prog_1_method_30_code, 2, some (Jvm.ClassFile.FieldType.int), 11), (⟨"PennyMore", "taken", "(II)I"⟩, prog_1_method_31_code, 4, some (Jvm.ClassFile.FieldType.int), 11), (⟨"PennyMore", "count", "(I)I"⟩, prog_1_method_32_code, 2, some (Jvm.ClassFile.FieldType.int), 11), (⟨"PennyMore", "tape", "(III)I"⟩, prog_1_method_33_code, 4, some (Jvm.ClassFile.FieldType.int), 11), (⟨"PennyMore", "item", "(IIJ)I"⟩, prog_1_method_34_code, 6, some (Jvm.ClassFile.FieldType.int), 11), (⟨"PennyMore", "read", "(II)J"⟩, prog_1_method_35_code, 3, some (Jvm.ClassFile.FieldType.long), 11), (⟨"PennyMore", "shift", "(IIIII)I"⟩, prog_1_method_36_code, 8, some (Jvm.ClassFile.FieldType.int), 11), (⟨"PennyMore", "orAbsent", "(I)I"⟩, prog_1_method_37_code, 1, some (Jvm.ClassFile.FieldType.int), 11), (⟨"PennyMore", "isTape", "(I)Z"⟩, prog_1_method_38_code, 1, some (Jvm.ClassFile.FieldType.boolean), 11), (⟨"PennyMore", "rowDigits", "(I)I"⟩, prog_1_method_39_code, 3, some (Jvm.ClassFile.FieldType.int), 11), (⟨"PennyMore", "newBuyer", "(IIII)LPennyMore$Buyer;"⟩, prog_1_method_40_code, 4, some ((Jvm.ClassFile.FieldType.object "PennyMore$Buyer")), 11), (⟨"PennyMore", "isOneOf", "(LPennyMore$Buyer;I)Z"⟩, prog_1_method_41_code, 2, some (Jvm.ClassFile.FieldType.boolean), 11), (⟨"PennyMore", "runTrial", "()V"⟩, prog_1_method_42_code, 1, none, 11), (⟨"PennyMore", "whoGetsLoaves", "()I"⟩, prog_1_method_43_code, 4, some (Jvm.ClassFile.FieldType.int), 11), (⟨"PennyMore", "nobodyRefuses", "(I)Z"⟩, prog_1_method_44_code, 3, some (Jvm.ClassFile.FieldType.boolean), 11), (⟨"PennyMore", "gainByFirst", "(III)I"⟩, prog_1_method_45_code, 4, some (Jvm.ClassFile.FieldType.int), 11), (⟨"PennyMore", "bothLikeSwap", "(I)Z"⟩, prog_1_method_46_code, 6, some (Jvm.ClassFile.FieldType.boolean), 11), (⟨"PennyMore", "takersAt", "(I)I"⟩, prog_1_method_47_code, 4, some (Jvm.ClassFile.FieldType.int), 11), (⟨"PennyMore", "findBestLineup", "(I)I"⟩, prog_1_method_48_code, 6, some (Jvm.ClassFile.FieldType.int), 11)]
def mm_mt_3 : List mm_mT := [(⟨"PennyMore", "startLineups", "()V"⟩, prog_1_method_49_code, 3, none, 11), (⟨"PennyMore", "standAsLineup", "()V"⟩, prog_1_method_50_code, 1, none, 11), (⟨"PennyMore", "nextLineup", "()Z"⟩, prog_1_method_51_code, 5, some (Jvm.ClassFile.FieldType.boolean), 11), (⟨"PennyMore", "swapInLineup", "(II)V"⟩, prog_1_method_52_code, 4, none, 11), (⟨"PennyMore", "weightOf", "(I)J"⟩, prog_1_method_53_code, 5, some (Jvm.ClassFile.FieldType.long), 11), (⟨"PennyMore", "whoSaysYes", "(I)I"⟩, prog_1_method_54_code, 7, some (Jvm.ClassFile.FieldType.int), 11), (⟨"PennyMore", "lowestTerms", "(JJI)J"⟩, prog_1_method_55_code, 12, some (Jvm.ClassFile.FieldType.long), 11), (⟨"PennyMoreModel", "<init>", "()V"⟩, prog_14_method_1_code, 1, none, 12), (⟨"PennyMoreModel", "in", "(III)Z"⟩, prog_14_method_3_code, 3, some (Jvm.ClassFile.FieldType.boolean), 12), (⟨"PennyMoreModel", "isBuyer", "(I)Z"⟩, prog_14_method_4_code, 2, some (Jvm.ClassFile.FieldType.boolean), 12), (⟨"PennyMoreModel", "placeOf", "(I)I"⟩, prog_14_method_5_code, 3, some (Jvm.ClassFile.FieldType.int), 12), (⟨"PennyMoreModel", "buyer", "(III)I"⟩, prog_14_method_6_code, 5, some (Jvm.ClassFile.FieldType.int), 12), (⟨"PennyMoreModel", "of", "(II)I"⟩, prog_14_method_7_code, 3, some (Jvm.ClassFile.FieldType.int), 12), (⟨"PennyMoreModel", "gained", "(I)I"⟩, prog_14_method_8_code, 2, some (Jvm.ClassFile.FieldType.int), 12), (⟨"PennyMoreModel", "friend", "(II)I"⟩, prog_14_method_9_code, 4, some (Jvm.ClassFile.FieldType.int), 12), (⟨"PennyMoreModel", "row", "(III)I"⟩, prog_14_method_10_code, 5, some (Jvm.ClassFile.FieldType.int), 12), (⟨"PennyMoreModel", "back", "(I)I"⟩, prog_14_method_11_code, 2, some (Jvm.ClassFile.FieldType.int), 12), (⟨"PennyMoreModel", "set", "(II)I"⟩, prog_14_method_12_code, 4, some (Jvm.ClassFile.FieldType.int), 12), (⟨"PennyMoreModel", "feed", "(I)I"⟩, prog_14_method_13_code, 2, some (Jvm.ClassFile.FieldType.int), 12), (⟨"PennyMoreModel", "sign", "()I"⟩, prog_14_method_14_code, 1, some (Jvm.ClassFile.FieldType.int), 12), (⟨"PennyMoreModel", "isFigure", "(I)Z"⟩, prog_14_method_15_code, 1, some (Jvm.ClassFile.FieldType.boolean), 12), (⟨"PennyMoreModel", "goesBy", "(I)Z"⟩, prog_14_method_16_code, 2, some (Jvm.ClassFile.FieldType.boolean), 12), (⟨"PennyMoreModel", "numberRead", "()I"⟩, prog_14_method_17_code, 2, some (Jvm.ClassFile.FieldType.int), 12), (⟨"PennyMoreModel", "wordRead", "()I"⟩, prog_14_method_18_code, 3, some (Jvm.ClassFile.FieldType.int), 12), (⟨"PennyMoreModel", "codes", "(I)V"⟩, prog_14_method_19_code, 2, none, 12), (⟨"PennyMoreModel", "testRead", "()Z"⟩, prog_14_method_20_code, 4, some (Jvm.ClassFile.FieldType.boolean), 12), (⟨"PennyMoreModel", "noMoreNots", "()V"⟩, prog_14_method_21_code, 1, none, 12), (⟨"PennyMoreModel", "unwinds", "(I)V"⟩, prog_14_method_22_code, 2, none, 12), (⟨"PennyMoreModel", "opens", "(I)Z"⟩, prog_14_method_23_code, 2, some (Jvm.ClassFile.FieldType.boolean), 12), (⟨"PennyMoreModel", "eRead", "()Z"⟩, prog_14_method_24_code, 3, some (Jvm.ClassFile.FieldType.boolean), 12), (⟨"PennyMoreModel", "clauseRead", "()Z"⟩, prog_14_method_25_code, 4, some (Jvm.ClassFile.FieldType.boolean), 12), (⟨"PennyMoreModel", "shopRead", "()I"⟩, prog_14_method_26_code, 1, some (Jvm.ClassFile.FieldType.int), 12), (⟨"PennyMoreModel", "shop", "()I"⟩, prog_14_method_27_code, 3, some (Jvm.ClassFile.FieldType.int), 12), (⟨"PennyMoreModel", "testOf", "(II)I"⟩, prog_14_method_28_code, 3, some (Jvm.ClassFile.FieldType.int), 12), (⟨"PennyMoreModel", "doesHold", "(II)Z"⟩, prog_14_method_29_code, 8, some (Jvm.ClassFile.FieldType.boolean), 12), (⟨"PennyMoreModel", "sumOf", "(II)I"⟩, prog_14_method_30_code, 5, some (Jvm.ClassFile.FieldType.int), 12), (⟨"PennyMoreModel", "valueOf", "(I)I"⟩, prog_14_method_31_code, 2, some (Jvm.ClassFile.FieldType.int), 12), (⟨"PennyMoreModel", "costOf", "(I)I"⟩, prog_14_method_32_code, 2, some (Jvm.ClassFile.FieldType.int), 12), (⟨"PennyMoreModel", "lawOf", "(I)I"⟩, prog_14_method_33_code, 4, some (Jvm.ClassFile.FieldType.int), 12), (⟨"PennyMoreModel", "told", "(I)I"⟩, prog_14_method_34_code, 2, some (Jvm.ClassFile.FieldType.int), 12)]
def mm_mt_4 : List mm_mT := [(⟨"PennyMoreModel", "mayAway", "(I)Z"⟩, prog_14_method_35_code, 2, some (Jvm.ClassFile.FieldType.boolean), 12), (⟨"PennyMoreModel", "gainOf", "(I)I"⟩, prog_14_method_36_code, 2, some (Jvm.ClassFile.FieldType.int), 12), (⟨"PennyMoreModel", "asBuyer", "(I)I"⟩, prog_14_method_37_code, 2, some (Jvm.ClassFile.FieldType.int), 12), (⟨"PennyMoreModel", "asWaiting", "(I)I"⟩, prog_14_method_38_code, 2, some (Jvm.ClassFile.FieldType.int), 12), (⟨"PennyMoreModel", "asFalling", "(I)I"⟩, prog_14_method_39_code, 3, some (Jvm.ClassFile.FieldType.int), 12), (⟨"PennyMoreModel", "asPlain", "(I)I"⟩, prog_14_method_40_code, 2, some (Jvm.ClassFile.FieldType.int), 12), (⟨"PennyMoreModel", "wouldBe", "(I)I"⟩, prog_14_method_41_code, 4, some (Jvm.ClassFile.FieldType.int), 12), (⟨"PennyMoreModel", "would", "(I)I"⟩, prog_14_method_42_code, 2, some (Jvm.ClassFile.FieldType.int), 12), (⟨"PennyMoreModel", "comes", "()Z"⟩, prog_14_method_43_code, 1, some (Jvm.ClassFile.FieldType.boolean), 12), (⟨"PennyMoreModel", "does", "(I)V"⟩, prog_14_method_44_code, 9, none, 12), (⟨"PennyMoreModel", "go", "()I"⟩, prog_14_method_45_code, 2, some (Jvm.ClassFile.FieldType.int), 12), (⟨"PennyMoreModel", "keeps", "()V"⟩, prog_14_method_46_code, 2, none, 12), (⟨"PennyMoreModel", "lays", "()V"⟩, prog_14_method_47_code, 2, none, 12), (⟨"PennyMoreModel", "toTheEnd", "()V"⟩, prog_14_method_48_code, 1, none, 12), (⟨"PennyMoreModel", "allGained", "()I"⟩, prog_14_method_49_code, 3, some (Jvm.ClassFile.FieldType.int), 12), (⟨"PennyMoreModel", "run", "(I)I"⟩, prog_14_method_50_code, 4, some (Jvm.ClassFile.FieldType.int), 12), (⟨"PennyMoreModel", "first", "(I)I"⟩, prog_14_method_51_code, 7, some (Jvm.ClassFile.FieldType.int), 12), (⟨"PennyMoreModel", "orders", "(I)I"⟩, prog_14_method_52_code, 3, some (Jvm.ClassFile.FieldType.int), 12), (⟨"PennyMoreModel", "stands", "(I)V"⟩, prog_14_method_53_code, 8, none, 12), (⟨"PennyMoreModel", "order", "(II)I"⟩, prog_14_method_54_code, 7, some (Jvm.ClassFile.FieldType.int), 12), (⟨"PennyMoreModel", "letBy", "(I)I"⟩, prog_14_method_55_code, 11, some (Jvm.ClassFile.FieldType.int), 12), (⟨"PennyMoreModel", "lowest", "(JJI)J"⟩, prog_14_method_56_code, 11, some (Jvm.ClassFile.FieldType.long), 12), (⟨"PennyMoreModel", "lot", "(I)J"⟩, prog_14_method_57_code, 5, some (Jvm.ClassFile.FieldType.long), 12), (⟨"PennyMoreModel", "fee", "()I"⟩, prog_14_method_58_code, 3, some (Jvm.ClassFile.FieldType.int), 12), (⟨"PennyMoreModel", "onePrice", "(I)I"⟩, prog_14_method_59_code, 7, some (Jvm.ClassFile.FieldType.int), 12), (⟨"PennyMoreModel", "othersGain", "(IZ)I"⟩, prog_14_method_60_code, 5, some (Jvm.ClassFile.FieldType.int), 12), (⟨"PennyMoreModel", "aunt", "(I)I"⟩, prog_14_method_61_code, 2, some (Jvm.ClassFile.FieldType.int), 12), (⟨"PennyMoreModel", "slips", "(I)I"⟩, prog_14_method_62_code, 3, some (Jvm.ClassFile.FieldType.int), 12), (⟨"PennyMoreModel", "keepsAt", "(I)V"⟩, prog_14_method_63_code, 3, none, 12), (⟨"PennyMoreModel", "laysAt", "(I)V"⟩, prog_14_method_64_code, 3, none, 12), (⟨"PennyMoreModel", "slipsOn", "(IIJ)V"⟩, prog_14_method_65_code, 8, none, 12), (⟨"PennyMoreModel", "sure", "(II)J"⟩, prog_14_method_66_code, 3, some (Jvm.ClassFile.FieldType.long), 12), (⟨"PennyMoreModel", "film", "(I)I"⟩, prog_14_method_67_code, 2, some (Jvm.ClassFile.FieldType.int), 12), (⟨"PennyMoreModel", "off", "()I"⟩, prog_14_method_68_code, 4, some (Jvm.ClassFile.FieldType.int), 12), (⟨"PennyMoreModel", "isTape", "(I)Z"⟩, prog_14_method_69_code, 2, some (Jvm.ClassFile.FieldType.boolean), 12), (⟨"PennyMoreModel", "judge", "(II)I"⟩, prog_14_method_70_code, 5, some (Jvm.ClassFile.FieldType.int), 12), (⟨"PennyMoreModel", "image", "()I"⟩, prog_14_method_71_code, 2, some (Jvm.ClassFile.FieldType.int), 12), (⟨"PennyMoreModel", "undo", "()I"⟩, prog_14_method_72_code, 2, some (Jvm.ClassFile.FieldType.int), 12), (⟨"PennyMoreModel", "runs", "(I)V"⟩, prog_14_method_73_code, 2, none, 12), (⟨"PennyMoreModel", "above", "(I)I"⟩, prog_14_method_74_code, 1, some (Jvm.ClassFile.FieldType.int), 12)]
def mm_mt_5 : List mm_mT := [(⟨"PennyMoreModel", "bids", "(II)I"⟩, prog_14_method_75_code, 3, some (Jvm.ClassFile.FieldType.int), 12), (⟨"PennyMoreModel", "waitsIn", "(II)I"⟩, prog_14_method_76_code, 4, some (Jvm.ClassFile.FieldType.int), 12), (⟨"PennyMoreModel", "tellsIn", "(II)I"⟩, prog_14_method_77_code, 4, some (Jvm.ClassFile.FieldType.int), 12), (⟨"PennyMoreModel", "act", "(III)I"⟩, prog_14_method_78_code, 4, some (Jvm.ClassFile.FieldType.int), 12), (⟨"PennyMoreModel", "trace", "(I)I"⟩, prog_14_method_79_code, 2, some (Jvm.ClassFile.FieldType.int), 12), (⟨"PennyMoreModel", "taken", "(II)I"⟩, prog_14_method_80_code, 4, some (Jvm.ClassFile.FieldType.int), 12), (⟨"PennyMoreModel", "count", "(I)I"⟩, prog_14_method_81_code, 2, some (Jvm.ClassFile.FieldType.int), 12), (⟨"PennyMoreModel", "tape", "(III)I"⟩, prog_14_method_82_code, 5, some (Jvm.ClassFile.FieldType.int), 12), (⟨"PennyMoreModel", "cut", "(IJ)J"⟩, prog_14_method_83_code, 3, some (Jvm.ClassFile.FieldType.long), 12), (⟨"PennyMoreModel", "item", "(IIJ)I"⟩, prog_14_method_84_code, 5, some (Jvm.ClassFile.FieldType.int), 12), (⟨"PennyMoreModel", "read", "(II)J"⟩, prog_14_method_85_code, 3, some (Jvm.ClassFile.FieldType.long), 12), (⟨"PennyMoreModel", "shift", "(IIIII)I"⟩, prog_14_method_86_code, 7, some (Jvm.ClassFile.FieldType.int), 12), (⟨"java/lang/String", "length", "()I"⟩, prog_17_method_54_code, 1, some (Jvm.ClassFile.FieldType.int), 13), (⟨"java/lang/String", "isEmpty", "()Z"⟩, prog_17_method_55_code, 1, some (Jvm.ClassFile.FieldType.boolean), 13), (⟨"java/lang/String", "charAt", "(I)C"⟩, prog_17_method_56_code, 2, some (Jvm.ClassFile.FieldType.char), 13), (⟨"java/lang/String", "indexOf", "(I)I"⟩, prog_17_method_79_code, 2, some (Jvm.ClassFile.FieldType.int), 13), (⟨"java/lang/String", "indexOf", "(II)I"⟩, prog_17_method_80_code, 3, some (Jvm.ClassFile.FieldType.int), 13), (⟨"java/lang/String", "coder", "()B"⟩, prog_17_method_152_code, 1, some (Jvm.ClassFile.FieldType.byte), 13), (⟨"java/lang/String", "isLatin1", "()Z"⟩, prog_17_method_154_code, 1, some (Jvm.ClassFile.FieldType.boolean), 13), (⟨"java/lang/String", "checkIndex", "(II)V"⟩, prog_17_method_155_code, 2, none, 13), (⟨"java/lang/StringLatin1", "charAt", "([BI)C"⟩, prog_18_method_2_code, 2, some (Jvm.ClassFile.FieldType.char), 14), (⟨"java/lang/StringLatin1", "canEncode", "(I)Z"⟩, prog_18_method_4_code, 1, some (Jvm.ClassFile.FieldType.boolean), 14), (⟨"java/lang/StringLatin1", "indexOf", "([BIII)I"⟩, prog_18_method_22_code, 4, some (Jvm.ClassFile.FieldType.int), 14), (⟨"java/lang/StringLatin1", "indexOfChar", "([BIII)I"⟩, prog_18_method_23_code, 6, some (Jvm.ClassFile.FieldType.int), 14), (⟨"jdk/internal/util/Preconditions", "checkIndex", "(IILjava/util/function/BiFunction;)I"⟩, prog_21_method_11_code, 3, some (Jvm.ClassFile.FieldType.int), 15)]
def mm_mc : List mm_mT := mm_mt_0 ++ (mm_mt_1 ++ (mm_mt_2 ++ (mm_mt_3 ++ (mm_mt_4 ++ (mm_mt_5)))))
def mm_tl : mm_mT := (⟨"PennyMoreLaw", "law", "([I)Z"⟩, code, 4, some .boolean, 17)
def mm_mt : List mm_mT := mm_mc ++ [mm_tl]
abbrev mm_nc : Nat := 225
def mm_fd {α : Type} : List (Nat × Nat × α) → Nat → Nat → Option α
  | [], _, _ => none
  | e :: l, x, y => if e.1 == x && e.2.1 == y then some e.2.2 else mm_fd l x y
theorem mm_fd_mem {α : Type} : ∀ {l : List (Nat × Nat × α)} {x y : Nat} {v : α}, mm_fd l x y = some v → (x, y, v) ∈ l
  | [], _, _, _, h => by simp [mm_fd] at h
  | e :: l, x, y, v, h => by
    unfold mm_fd at h
    split at h
    · rename_i hc
      simp only [Bool.and_eq_true, beq_iff_eq] at hc
      obtain ⟨a, b, w⟩ := e
      simp at hc h
      rw [← hc.1, ← hc.2, ← h]; exact List.mem_cons_self
    · exact List.mem_cons_of_mem _ (mm_fd_mem h)
abbrev mm_cl_s : List vw_C := [(RX0, TX0, 4), (RX1, TX1, 20), (RX2, TX0, 4), (RX3, TX0, 4), (RX4, TX0, 4), (RX5, TX5, 4), (RX6, TX6, 10), (RX7, TX0, 4), (RX8, TX8, 3), (RX9, TX0, 4), (RX10, TX0, 4), (RX11, TX11, 13), (RX12, TX12, 76)]
def mm_T (k : Nat) : u_T := (mm_cl_s.getD k ("", TX0, 0)).2.1
def mm_NF (k : Nat) : Nat := (mm_cl_s.getD k ("", TX0, 0)).2.2
/-- 0 an int, 1 a long, 2 a reference, 3 a boolean -/
def mm_tg (k j : Nat) : Nat := (([[0, 0, 0, 0], [2, 2, 2, 2, 2, 2, 2, 2, 2, 0, 0, 0, 0, 0, 0, 0, 0, 0, 0, 0], [0, 0, 0, 0], [0, 0, 0, 0], [0, 0, 0, 0], [0, 2, 0, 2], [0, 0, 0, 0, 2, 2, 2, 2, 0, 0], [0, 0, 0, 0], [2, 0, 0], [0, 0, 0, 0], [0, 0, 0, 0], [2, 2, 2, 2, 2, 2, 2, 2, 2, 2, 2, 0, 3], [0, 2, 2, 2, 2, 2, 2, 2, 0, 2, 0, 0, 0, 0, 0, 0, 2, 0, 0, 2, 2, 2, 2, 2, 2, 2, 0, 0, 0, 2, 2, 2, 2, 2, 2, 2, 0, 0, 2, 0, 0, 2, 0, 0, 2, 2, 2, 0, 0, 0, 0, 0, 2, 1, 3, 2, 2, 2, 2, 3, 0, 0, 0, 0, 2, 2, 2, 2, 2, 2, 2, 2, 2, 2, 0, 2]] : List (List Nat)).getD k []).getD j 0
def mm_bk (k : Nat) : Bool := k == 0 || k == 2 || k == 3 || k == 4 || k == 7 || k == 9 || k == 10
def mm_fam (f k : Nat) : Bool := if f == 0 then mm_bk k else f == k
/-- the String constants: place in the class file, text, bytes -/
def mm_sx (k : Nat) : Nat × String × List Int32 := [(33, ";", [59]), (52, "more ", [109, 111, 114, 101, 32]), (54, "cost ", [99, 111, 115, 116, 32]), (56, "up ", [117, 112, 32]), (58, "down ", [100, 111, 119, 110, 32]), (60, "away ", [97, 119, 97, 121, 32]), (62, "fee ", [102, 101, 101, 32]), (64, "", []), (76, " ", [32]), (117, ")", [41]), (119, "bkplraf", [98, 107, 112, 108, 114, 97, 102]), (125, "<=>", [60, 61, 62])].getD k (0, "", [])
def mm_NC : List (String × String) := [("PennyMore$Buyer", "PennyMore$Plain"), ("PennyMore$Falling", "PennyMore$Plain"), ("PennyMore$Late", "PennyMore$Plain"), ("PennyMore$Told", "PennyMore$Plain"), ("PennyMore$Waiting", "PennyMore$Plain"), ("PennyMore$Buyer", "PennyMore$Waiting"), ("PennyMore$Falling", "PennyMore$Waiting"), ("PennyMore$Plain", "PennyMore$Waiting"), ("PennyMore$Sure", "PennyMore$Waiting"), ("PennyMore$Told", "PennyMore$Waiting"), ("PennyMore$Buyer", "PennyMore$Falling"), ("PennyMore$Late", "PennyMore$Falling"), ("PennyMore$Plain", "PennyMore$Falling"), ("PennyMore$Sure", "PennyMore$Falling"), ("PennyMore$Waiting", "PennyMore$Falling"), ("PennyMore$Buyer", "PennyMore$Sure"), ("PennyMore$Falling", "PennyMore$Sure"), ("PennyMore$Late", "PennyMore$Sure"), ("PennyMore$Plain", "PennyMore$Sure"), ("PennyMore$Told", "PennyMore$Sure"), ("PennyMore$Waiting", "PennyMore$Sure"), ("PennyMore$Buyer", "PennyMore$Late"), ("PennyMore$Falling", "PennyMore$Late"), ("PennyMore$Plain", "PennyMore$Late"), ("PennyMore$Sure", "PennyMore$Late"), ("PennyMore$Told", "PennyMore$Late"), ("PennyMore$Waiting", "PennyMore$Late"), ("PennyMore$Buyer", "PennyMore$Told"), ("PennyMore$Falling", "PennyMore$Told"), ("PennyMore$Late", "PennyMore$Told"), ("PennyMore$Plain", "PennyMore$Told"), ("PennyMore$Sure", "PennyMore$Told"), ("PennyMore$Waiting", "PennyMore$Told")]
def mm_E3 : List (String × Nat × MethodName × String) := [("PennyMore", 38, ⟨"PennyMore$Reader", "<init>", "()V"⟩, "PennyMore"), ("PennyMore", 49, ⟨"PennyMore$Tape", "<init>", "()V"⟩, "PennyMore")]
def mm_E2 : List String := ["PennyMore$Buyer", "PennyMore$Shop", "PennyMore$Tape"]
def mm_E1 : List (String × String) := [("PennyMore$Falling", "PennyMore$Buyer"), ("PennyMore$Late", "PennyMore$Buyer"), ("PennyMore$Late", "PennyMore$Waiting"), ("PennyMore$Plain", "PennyMore$Buyer"), ("PennyMore$Sure", "PennyMore$Buyer"), ("PennyMore$Sure", "PennyMore$Plain"), ("PennyMore$Told", "PennyMore$Buyer"), ("PennyMore$Told", "PennyMore$Falling"), ("PennyMore$Waiting", "PennyMore$Buyer")]
def mm_FL_0 : List (Nat × Nat × Nat × Nat × Nat × Nat) := [(0, 9, 0, 0, 0, 1), (0, 15, 0, 1, 0, 1), (0, 18, 0, 2, 0, 1), (0, 21, 0, 3, 0, 1), (1, 11, 1, 0, 2, 1), (1, 17, 1, 1, 2, 1), (1, 21, 1, 2, 2, 1), (1, 24, 1, 3, 2, 1), (1, 27, 1, 4, 2, 1), (1, 30, 1, 5, 2, 1), (1, 33, 1, 6, 2, 1), (1, 38, 1, 7, 2, 1), (1, 41, 1, 12, 0, 0), (1, 45, 1, 13, 0, 0), (1, 48, 1, 8, 2, 0), (1, 52, 6, 3, 0, 0), (1, 55, 1, 9, 0, 0), (1, 62, 1, 10, 0, 0), (1, 65, 1, 11, 0, 0), (1, 68, 1, 14, 0, 0), (1, 71, 1, 15, 0, 0), (1, 74, 1, 16, 0, 0), (1, 77, 1, 17, 0, 0), (1, 91, 6, 2, 0, 0), (1, 94, 1, 18, 0, 0)]
def mm_FL_1 : List (Nat × Nat × Nat × Nat × Nat × Nat) := [(1, 97, 1, 19, 0, 0), (1, 100, 0, 0, 0, 1), (1, 107, 0, 3, 0, 1), (1, 124, 6, 0, 0, 0), (1, 133, 6, 1, 0, 0), (2, 9, 1, 12, 0, 0), (2, 15, 0, 2, 0, 1), (2, 20, 0, 1, 0, 1), (3, 9, 1, 11, 0, 0), (3, 15, 0, 2, 0, 1), (3, 20, 0, 1, 0, 1), (4, 15, 0, 2, 0, 1), (5, 9, 5, 1, 2, 1), (5, 13, 5, 0, 0, 0), (5, 17, 5, 3, 2, 0), (5, 26, 5, 2, 0, 0), (5, 86, 6, 0, 0, 0), (5, 89, 6, 1, 0, 0), (5, 98, 6, 2, 0, 0), (5, 101, 6, 3, 0, 0), (6, 9, 6, 4, 2, 1), (6, 13, 6, 5, 2, 1), (6, 16, 6, 6, 2, 1), (6, 21, 6, 7, 2, 1), (6, 27, 6, 8, 0, 0)]
def mm_FL_2 : List (Nat × Nat × Nat × Nat × Nat × Nat) := [(6, 31, 6, 9, 0, 0), (6, 34, 6, 0, 0, 0), (6, 37, 6, 1, 0, 0), (6, 40, 6, 2, 0, 0), (6, 43, 6, 3, 0, 0), (7, 9, 1, 13, 0, 0), (7, 15, 0, 2, 0, 1), (8, 9, 8, 0, 2, 1), (8, 13, 8, 1, 0, 0), (8, 17, 8, 2, 0, 0), (9, 9, 1, 2, 2, 1), (9, 15, 0, 1, 0, 1), (9, 21, 1, 12, 0, 0), (9, 43, 0, 2, 0, 1), (10, 9, 1, 18, 0, 0), (10, 15, 1, 12, 0, 0), (10, 18, 0, 1, 0, 1), (11, 17, 11, 0, 2, 1), (11, 23, 11, 1, 2, 1), (11, 26, 11, 2, 2, 1), (11, 29, 11, 3, 2, 1), (11, 32, 11, 4, 2, 1), (11, 39, 11, 5, 2, 1), (11, 45, 11, 6, 2, 1), (11, 50, 11, 7, 2, 1)]
def mm_FL_3 : List (Nat × Nat × Nat × Nat × Nat × Nat) := [(11, 54, 11, 8, 2, 1), (11, 57, 11, 9, 2, 1), (11, 60, 11, 10, 2, 1), (11, 65, 1, 10, 0, 0), (11, 81, 1, 0, 2, 1), (11, 85, 0, 0, 0, 1), (11, 88, 0, 2, 0, 1), (11, 91, 0, 3, 0, 1), (11, 94, 1, 1, 2, 1), (11, 101, 1, 3, 2, 1), (11, 111, 1, 18, 0, 0), (11, 114, 1, 19, 0, 0), (11, 120, 1, 4, 2, 1), (11, 124, 1, 2, 2, 1), (11, 130, 1, 12, 0, 0), (11, 133, 1, 13, 0, 0), (11, 139, 5, 0, 0, 0), (11, 142, 11, 11, 0, 0), (11, 155, 1, 8, 2, 0), (11, 159, 6, 0, 0, 0), (11, 162, 6, 1, 0, 0), (11, 165, 6, 2, 0, 0), (11, 168, 6, 3, 0, 0), (11, 171, 1, 14, 0, 0), (11, 174, 1, 15, 0, 0)]
def mm_FL_4 : List (Nat × Nat × Nat × Nat × Nat × Nat) := [(11, 177, 1, 11, 0, 0), (11, 242, 1, 5, 2, 1), (11, 258, 1, 16, 0, 0), (11, 268, 1, 17, 0, 0), (11, 271, 1, 6, 2, 1), (11, 280, 8, 1, 0, 0), (11, 283, 8, 2, 0, 0), (11, 284, 8, 0, 2, 1), (11, 288, 11, 12, 3, 0), (11, 347, 1, 9, 0, 0), (12, 9, 12, 1, 2, 1), (12, 15, 12, 2, 2, 1), (12, 18, 12, 3, 2, 1), (12, 21, 12, 4, 2, 1), (12, 24, 12, 5, 2, 1), (12, 27, 12, 6, 2, 1), (12, 30, 12, 7, 2, 1), (12, 33, 12, 9, 2, 1), (12, 36, 12, 10, 0, 0), (12, 40, 12, 11, 0, 0), (12, 43, 12, 16, 2, 1), (12, 46, 12, 18, 0, 0), (12, 49, 12, 19, 2, 1), (12, 52, 12, 20, 2, 1), (12, 55, 12, 21, 2, 1)]
def mm_FL_5 : List (Nat × Nat × Nat × Nat × Nat × Nat) := [(12, 58, 12, 22, 2, 1), (12, 61, 12, 23, 2, 1), (12, 64, 12, 24, 2, 1), (12, 67, 12, 25, 2, 1), (12, 70, 12, 27, 0, 0), (12, 73, 12, 29, 2, 1), (12, 76, 12, 30, 2, 1), (12, 79, 12, 31, 2, 1), (12, 82, 12, 32, 2, 1), (12, 86, 12, 33, 2, 1), (12, 89, 12, 34, 2, 1), (12, 92, 12, 35, 2, 1), (12, 95, 12, 38, 2, 1), (12, 98, 12, 41, 2, 1), (12, 102, 12, 44, 2, 1), (12, 105, 12, 45, 2, 1), (12, 108, 12, 46, 2, 1), (12, 111, 12, 52, 2, 1), (12, 114, 12, 55, 2, 1), (12, 117, 12, 56, 2, 1), (12, 120, 12, 57, 2, 1), (12, 123, 12, 58, 2, 1), (12, 126, 12, 64, 2, 1), (12, 129, 12, 65, 2, 1), (12, 132, 12, 66, 2, 1)]
def mm_FL_6 : List (Nat × Nat × Nat × Nat × Nat × Nat) := [(12, 135, 12, 67, 2, 1), (12, 138, 12, 68, 2, 1), (12, 141, 12, 69, 2, 1), (12, 144, 12, 70, 2, 1), (12, 147, 12, 71, 2, 1), (12, 150, 12, 72, 2, 1), (12, 153, 12, 73, 2, 1), (12, 156, 12, 75, 2, 1), (12, 159, 12, 0, 0, 0), (12, 166, 12, 8, 0, 0), (12, 184, 12, 26, 0, 0), (12, 187, 12, 36, 0, 0), (12, 200, 12, 37, 0, 0), (12, 209, 12, 39, 0, 0), (12, 212, 12, 40, 0, 0), (12, 237, 12, 17, 0, 0), (12, 257, 12, 12, 0, 0), (12, 260, 12, 13, 0, 0), (12, 284, 12, 42, 0, 0), (12, 287, 12, 43, 0, 0), (12, 296, 12, 47, 0, 0), (12, 299, 12, 48, 0, 0), (12, 302, 12, 49, 0, 0), (12, 305, 12, 50, 0, 0), (12, 308, 12, 51, 0, 0)]
def mm_FL_7 : List (Nat × Nat × Nat × Nat × Nat × Nat) := [(12, 340, 12, 14, 0, 0), (12, 343, 12, 54, 3, 0), (12, 356, 12, 53, 1, 0), (12, 365, 12, 15, 0, 0), (12, 371, 12, 59, 3, 0), (12, 374, 12, 60, 0, 0), (12, 377, 12, 61, 0, 0), (12, 380, 12, 62, 0, 0), (12, 383, 12, 63, 0, 0), (12, 386, 12, 28, 0, 0), (12, 398, 12, 74, 0, 0)]
def mm_FL : List (Nat × Nat × Nat × Nat × Nat × Nat) := mm_FL_0 ++ (mm_FL_1 ++ (mm_FL_2 ++ (mm_FL_3 ++ (mm_FL_4 ++ (mm_FL_5 ++ (mm_FL_6 ++ (mm_FL_7)))))))
def mm_ST_0 : List (Nat × Nat × Nat × Nat) := [(0, 30, 2, 1), (2, 31, 2, 1), (3, 31, 2, 1), (4, 21, 2, 1), (5, 66, 1, 40), (5, 127, 3, 50), (6, 50, 2, 54), (7, 24, 2, 1), (9, 32, 2, 1), (10, 31, 2, 1), (11, 69, 4, 111), (11, 97, 1, 108), (11, 235, 3, 126), (11, 274, 1, 109), (11, 301, 2, 112), (12, 162, 3, 128), (12, 194, 1, 140), (12, 323, 1, 177), (12, 331, 3, 181), (12, 392, 1, 199), (12, 407, 2, 208), (13, 495, 2, 220), (13, 637, 4, 222), (13, 1059, 3, 224), (14, 9, 2, 219)]
def mm_ST_1 : List (Nat × Nat × Nat × Nat) := [(14, 88, 1, 221), (14, 95, 4, 223)]
def mm_ST : List (Nat × Nat × Nat × Nat) := mm_ST_0 ++ (mm_ST_1)
def mm_VT_0 : List (Nat × Nat × Nat × List (Nat × Nat)) := [(0, 24, 0, [(1, 18)]), (0, 34, 2, [(0, 3), (2, 3), (3, 71), (4, 3), (7, 57), (9, 68), (10, 71)]), (0, 38, 2, [(0, 4), (2, 4), (3, 4), (4, 33), (7, 58), (9, 67), (10, 4)]), (1, 80, 1, [(1, 13)]), (1, 84, 1, [(1, 12)]), (1, 88, 1, [(1, 14)]), (1, 103, 1, [(1, 17)]), (1, 110, 2, [(6, 52)]), (1, 114, 1, [(1, 19)]), (1, 117, 1, [(0, 2), (2, 26), (3, 29), (4, 32), (7, 56), (9, 66), (10, 70)]), (1, 121, 1, [(1, 22)]), (1, 136, 0, [(1, 20)]), (1, 140, 0, [(1, 21)]), (2, 23, 1, [(1, 17)]), (2, 39, 2, [(2, 4), (9, 67)]), (3, 23, 1, [(1, 16)]), (4, 9, 0, [(1, 18)]), (5, 21, 0, [(6, 48)]), (5, 29, 0, [(5, 41)]), (5, 35, 1, [(5, 39)]), (5, 39, 0, [(100, 212)]), (5, 45, 0, [(5, 38)]), (5, 48, 1, [(100, 214)]), (5, 70, 0, [(100, 213)]), (5, 73, 0, [(5, 46)])]
def mm_VT_1 : List (Nat × Nat × Nat × List (Nat × Nat)) := [(5, 78, 1, [(5, 42)]), (5, 82, 2, [(6, 51)]), (5, 104, 1, [(5, 43)]), (5, 107, 1, [(6, 49)]), (5, 111, 1, [(5, 44)]), (5, 114, 0, [(5, 45)]), (5, 121, 1, [(100, 215)]), (6, 24, 0, [(6, 48)]), (6, 46, 3, [(6, 53)]), (9, 24, 1, [(1, 16)]), (10, 23, 1, [(1, 16)]), (11, 73, 1, [(1, 9)]), (11, 77, 1, [(1, 8)]), (11, 104, 1, [(1, 12)]), (11, 107, 1, [(1, 19)]), (11, 117, 1, [(11, 110)]), (11, 127, 1, [(1, 13)]), (11, 136, 1, [(5, 35)]), (11, 145, 1, [(5, 37)]), (11, 149, 0, [(5, 36)]), (11, 152, 1, [(1, 10)]), (11, 180, 0, [(1, 11)]), (11, 184, 1, [(1, 7)]), (11, 188, 1, [(1, 15)]), (11, 191, 1, [(0, 2), (2, 26), (3, 29), (4, 32), (7, 56), (9, 66), (10, 70)])]
def mm_VT_2 : List (Nat × Nat × Nat × List (Nat × Nat)) := [(11, 195, 0, [(1, 20)]), (11, 199, 0, [(1, 21)]), (11, 202, 0, [(11, 113)]), (11, 205, 0, [(11, 114)]), (11, 208, 1, [(1, 16)]), (11, 211, 3, [(11, 116)]), (11, 215, 1, [(11, 119)]), (11, 218, 0, [(1, 23)]), (11, 221, 1, [(11, 117)]), (11, 226, 0, [(11, 120)]), (11, 229, 0, [(11, 121)]), (11, 232, 0, [(11, 122)]), (11, 239, 1, [(11, 115)]), (11, 245, 1, [(11, 118)]), (11, 255, 1, [(1, 14)]), (11, 261, 1, [(11, 124)]), (11, 265, 1, [(11, 125)]), (11, 277, 0, [(8, 61)]), (11, 292, 2, [(0, 3), (2, 3), (3, 71), (4, 3), (7, 57), (9, 68), (10, 71)]), (11, 296, 2, [(0, 4), (2, 4), (3, 4), (4, 33), (7, 58), (9, 67), (10, 4)]), (11, 299, 2, [(0, 5), (2, 27), (3, 30), (4, 5), (7, 5), (9, 27), (10, 5)]), (11, 305, 2, [(8, 60)]), (11, 309, 1, [(8, 62)]), (11, 312, 1, [(8, 64)]), (11, 316, 2, [(8, 63)])]
def mm_VT_3 : List (Nat × Nat × Nat × List (Nat × Nat)) := [(11, 348, 1, [(1, 22)]), (11, 351, 0, [(1, 24)]), (11, 354, 2, [(11, 123)]), (12, 169, 1, [(12, 129)]), (12, 173, 1, [(12, 130)]), (12, 177, 1, [(12, 156)]), (12, 180, 1, [(12, 157)]), (12, 190, 0, [(12, 139)]), (12, 197, 1, [(12, 141)]), (12, 203, 0, [(12, 142)]), (12, 206, 1, [(12, 144)]), (12, 215, 1, [(12, 148)]), (12, 218, 0, [(12, 145)]), (12, 222, 0, [(12, 146)]), (12, 225, 1, [(12, 147)]), (12, 228, 0, [(12, 143)]), (12, 231, 0, [(12, 149)]), (12, 234, 0, [(12, 150)]), (12, 240, 0, [(12, 151)]), (12, 243, 2, [(12, 153)]), (12, 247, 2, [(12, 154)]), (12, 251, 2, [(12, 155)]), (12, 254, 1, [(12, 158)]), (12, 263, 1, [(12, 161)]), (12, 266, 1, [(12, 160)])]
def mm_VT_4 : List (Nat × Nat × Nat × List (Nat × Nat)) := [(12, 269, 1, [(12, 162)]), (12, 272, 1, [(12, 165)]), (12, 275, 1, [(12, 163)]), (12, 278, 1, [(12, 164)]), (12, 281, 1, [(12, 166)]), (12, 290, 0, [(12, 168)]), (12, 293, 1, [(12, 169)]), (12, 311, 0, [(12, 171)]), (12, 314, 0, [(12, 173)]), (12, 317, 0, [(12, 172)]), (12, 320, 0, [(12, 174)]), (12, 326, 1, [(12, 178)]), (12, 336, 2, [(12, 185)]), (12, 347, 1, [(12, 188)]), (12, 350, 3, [(12, 190)]), (12, 360, 1, [(12, 189)]), (12, 368, 1, [(12, 194)]), (12, 389, 1, [(12, 198)]), (12, 395, 2, [(12, 200)]), (12, 401, 2, [(12, 201)]), (12, 404, 2, [(12, 202)]), (13, 335, 0, [(100, 217)]), (13, 492, 0, [(100, 218)]), (13, 505, 0, [(100, 212)]), (13, 633, 2, [(100, 216)])]
def mm_VT_5 : List (Nat × Nat × Nat × List (Nat × Nat)) := [(17, 13, 3, [(11, 73)]), (17, 17, 3, [(12, 131)]), (17, 18, 2, [(11, 74)]), (17, 22, 2, [(12, 132)]), (17, 23, 1, [(11, 75)]), (17, 27, 1, [(12, 133)]), (17, 28, 2, [(11, 76)]), (17, 31, 2, [(12, 134)]), (17, 32, 3, [(11, 77)]), (17, 35, 3, [(12, 135)]), (17, 36, 1, [(11, 78)]), (17, 39, 1, [(12, 136)]), (17, 40, 2, [(11, 79)]), (17, 43, 2, [(12, 137)]), (17, 44, 1, [(11, 80)]), (17, 47, 1, [(12, 138)]), (17, 48, 0, [(11, 81)]), (17, 52, 0, [(12, 152)]), (17, 53, 1, [(11, 82)]), (17, 56, 1, [(12, 159)]), (17, 57, 1, [(11, 83)]), (17, 60, 1, [(12, 167)]), (17, 61, 0, [(11, 84)]), (17, 64, 0, [(12, 170)]), (17, 65, 1, [(11, 85)])]
def mm_VT_6 : List (Nat × Nat × Nat × List (Nat × Nat)) := [(17, 68, 1, [(12, 175)]), (17, 69, 1, [(11, 86)]), (17, 72, 1, [(12, 176)]), (17, 73, 2, [(11, 87)]), (17, 76, 2, [(12, 179)]), (17, 77, 1, [(11, 88)]), (17, 80, 1, [(12, 180)]), (17, 81, 1, [(11, 89)]), (17, 85, 1, [(12, 182)]), (17, 86, 0, [(11, 90)]), (17, 89, 0, [(12, 183)]), (17, 90, 1, [(11, 91)]), (17, 93, 1, [(12, 184)]), (17, 94, 1, [(11, 92)]), (17, 97, 1, [(12, 186)]), (17, 98, 1, [(11, 93)]), (17, 101, 1, [(12, 187)]), (17, 102, 2, [(11, 94)]), (17, 106, 2, [(12, 191)]), (17, 107, 1, [(11, 95)]), (17, 110, 1, [(12, 192)]), (17, 111, 0, [(11, 96)]), (17, 114, 0, [(12, 193)]), (17, 115, 2, [(11, 97)]), (17, 118, 2, [(12, 195)])]
def mm_VT_7 : List (Nat × Nat × Nat × List (Nat × Nat)) := [(17, 119, 0, [(11, 98)]), (17, 122, 0, [(12, 196)]), (17, 123, 0, [(11, 99)]), (17, 126, 0, [(12, 197)]), (17, 127, 3, [(11, 100)]), (17, 130, 3, [(12, 203)]), (17, 131, 1, [(11, 101)]), (17, 134, 1, [(12, 204)]), (17, 135, 2, [(11, 102)]), (17, 138, 2, [(12, 205)]), (17, 139, 1, [(11, 103)]), (17, 142, 1, [(12, 206)]), (17, 143, 3, [(11, 104)]), (17, 146, 3, [(12, 207)]), (17, 149, 3, [(11, 105)]), (17, 153, 3, [(12, 209)]), (17, 154, 2, [(11, 106)]), (17, 157, 2, [(12, 210)]), (17, 158, 5, [(11, 107)]), (17, 162, 5, [(12, 211)])]
def mm_VT : List (Nat × Nat × Nat × List (Nat × Nat)) := mm_VT_0 ++ (mm_VT_1 ++ (mm_VT_2 ++ (mm_VT_3 ++ (mm_VT_4 ++ (mm_VT_5 ++ (mm_VT_6 ++ (mm_VT_7)))))))
def mm_SP_0 : List (Nat × Nat × Nat × Nat × Nat) := [(2, 3, 4, 0, 1), (2, 27, 1, 2, 2), (2, 35, 2, 5, 2), (3, 3, 4, 69, 1), (3, 27, 1, 70, 2), (3, 35, 2, 5, 2), (4, 3, 4, 0, 1), (4, 25, 2, 4, 2), (7, 3, 4, 31, 1), (7, 20, 1, 32, 2), (7, 28, 2, 3, 2), (7, 32, 2, 33, 2), (9, 3, 4, 25, 1), (9, 28, 1, 26, 2), (9, 36, 2, 4, 2), (9, 40, 2, 3, 2), (10, 3, 4, 0, 1), (10, 27, 1, 2, 2), (10, 35, 2, 3, 2), (11, 11, 0, 47, 1), (11, 14, 1, 6, 1), (11, 38, 0, 34, 3), (11, 49, 0, 59, 3), (11, 328, 4, 31, 1), (11, 333, 4, 69, 1)]
def mm_SP_1 : List (Nat × Nat × Nat × Nat × Nat) := [(11, 336, 4, 25, 1), (11, 339, 4, 55, 1), (11, 342, 4, 28, 1), (11, 345, 4, 65, 1), (11, 346, 4, 0, 1), (17, 9, 0, 72, 1), (17, 12, 0, 127, 1)]
def mm_SP : List (Nat × Nat × Nat × Nat × Nat) := mm_SP_0 ++ (mm_SP_1)
def mm_OI_0 : List (Nat × Nat × Unit) := [(0, 3, ()), (1, 3, ()), (5, 1, ()), (6, 1, ()), (8, 1, ()), (11, 3, ()), (12, 3, ())]
def mm_OI : List (Nat × Nat × Unit) := mm_OI_0
def mm_AC_0 : List (Nat × Nat × Unit) := [(1, 56, ()), (11, 320, ())]
def mm_AC : List (Nat × Nat × Unit) := mm_AC_0
def mm_MX_0 : List (Nat × Nat × Nat) := [(1, 127, 0), (5, 92, 0), (11, 248, 0), (14, 38, 0), (14, 92, 1)]
def mm_MX : List (Nat × Nat × Nat) := mm_MX_0
def mm_NW_0 : List (Nat × Nat × Nat) := [(11, 9, 6), (11, 12, 1), (11, 36, 5), (11, 43, 8), (11, 63, 0), (11, 326, 4), (11, 331, 10), (11, 334, 2), (11, 337, 7), (11, 340, 3), (11, 343, 9), (17, 7, 11), (17, 10, 12)]
def mm_NW : List (Nat × Nat × Nat) := mm_NW_0
def mm_AN_0 : List (Nat × Nat × Nat) := [(1, 9, 16), (11, 9, 17), (11, 43, 18)]
def mm_AN : List (Nat × Nat × Nat) := mm_AN_0
def mm_IO_0 : List (Nat × Nat × String × List Nat) := [(11, 326, "PennyMore$Plain", [4, 7]), (11, 331, "PennyMore$Waiting", [3, 10]), (11, 334, "PennyMore$Falling", [2, 9]), (11, 337, "PennyMore$Sure", [7]), (11, 340, "PennyMore$Late", [3]), (11, 343, "PennyMore$Told", [9])]
def mm_IO : List (Nat × Nat × String × List Nat) := mm_IO_0
def mm_LC_0 : List (Nat × Nat × Value) := [(5, 33, .ref 1000000), (5, 52, .ref 1000002), (5, 54, .ref 1000004), (5, 56, .ref 1000006), (5, 58, .ref 1000008), (5, 60, .ref 1000010), (5, 62, .ref 1000012), (5, 64, .ref 1000014), (5, 76, .ref 1000016), (5, 117, .ref 1000018), (5, 119, .ref 1000020), (5, 125, .ref 1000022), (11, 123, .int (-100001)), (11, 254, .int (-100003)), (12, 183, .int (-100001)), (12, 335, .int (-100003))]
def mm_LC : List (Nat × Nat × Value) := mm_LC_0
def mm_L2_0 : List (Nat × Nat × Int64) := [(11, 224, -9223372036854775808), (12, 329, -9223372036854775808), (12, 354, 10), (12, 363, 1000000000000), (17, 147, 4294967295)]
def mm_L2 : List (Nat × Nat × Int64) := mm_L2_0
def mm_okF (e : Nat × Nat × Nat × Nat × Nat × Nat) : Prop := ∃ ref : String, Cond.fieldLink (mm_cn e.1) e.2.1 ref (mm_T e.2.2.1 e.2.2.2.1).2.1 (mm_T e.2.2.1 e.2.2.2.1).2.2.1 ∈ mm_G ∧ (ref = (mm_T e.2.2.1 e.2.2.2.1).1 ∨ Cond.sameField ref (mm_T e.2.2.1 e.2.2.2.1).1 (mm_T e.2.2.1 e.2.2.2.1).2.1 (mm_T e.2.2.1 e.2.2.2.1).2.2.1 ∈ mm_G) ∧ e.2.2.2.1 < mm_NF e.2.2.1 ∧ mm_tg e.2.2.1 e.2.2.2.1 = e.2.2.2.2.1 ∧ (e.2.2.1 < 13 ∧ (e.2.2.1 = 0 ∨ mm_bk e.2.2.1 = false)) ∧ ((e.2.2.2.2.2 = 0 ∧ (mm_T e.2.2.1 e.2.2.2.1).2.2.2 = false) ∨ (e.2.2.2.2.2 = 1 ∧ (mm_T e.2.2.1 e.2.2.2.1).2.2.2 = true))
def mm_okT (t : mm_mT) : Prop := Cond.code t.1 t.2.1 t.2.2.1 t.2.2.2.1 ∈ mm_G ∧ plainName t.1.cls = true ∧ t.2.2.1 ≤ 40 ∧ t.1.cls = mm_cn t.2.2.2.2 ∧ t.2.2.2.2 ≠ 17 ∧ (t.1.cls ≠ "java/lang/invoke/MethodHandle" ∧ t.1.cls ≠ "java/lang/invoke/VarHandle")
def mm_okS (e : Nat × Nat × Nat × Nat) : Prop := ∃ (t : mm_mT) (x : MethodName), mm_mc[e.2.2.2]? = some t ∧ Cond.methodLink (mm_cn e.1) e.2.1 x ∈ mm_G ∧ Cond.static t.1 ∈ mm_G ∧ Cond.initialized t.1.cls ∈ mm_G ∧ (parseMethodDescriptor x.desc).map (fun d => d.parameters.length) = some e.2.2.1 ∧ (x = t.1 ∨ (Cond.sameMethod x.cls t.1.cls x.name x.desc ∈ mm_G ∧ t.1 = ⟨t.1.cls, x.name, x.desc⟩))
def mm_ck (k : Nat) : String := if k = 100 then "java/lang/String" else (mm_cl_s.getD k ("", TX0, 0)).1
def mm_okV1 (e : Nat × Nat × Nat × List (Nat × Nat)) (q : Nat × Nat) : Prop := ∃ (t : mm_mT) (x : MethodName) (owner : String), mm_mc[q.2]? = some t ∧ Cond.methodLink (mm_cn e.1) e.2.1 x ∈ mm_G ∧ Cond.initialized t.1.cls ∈ mm_G ∧ Cond.instanceMethod t.1 ∈ mm_G ∧ Cond.selects (mm_ck q.1) x t.1 ∈ mm_G ∧ (parseMethodDescriptor x.desc).map (fun d => d.parameters.length) = some e.2.2.1 ∧ (owner ≠ "java/lang/invoke/MethodHandle" ∧ owner ≠ "java/lang/invoke/VarHandle") ∧ (q.1 < 13 ∨ q.1 = 100) ∧ ((x = t.1) ∨ (Cond.sameMethod x.cls owner x.name x.desc ∈ mm_G ∧ ∃ (z : MethodName) (b0 : ByteArray) (m0 : Nat) (r0 : Option FieldType), z = ⟨owner, x.name, x.desc⟩ ∧ Cond.instanceMethod z ∈ mm_G ∧ Cond.code z b0 m0 r0 ∈ mm_G))
def mm_okV (e : Nat × Nat × Nat × List (Nat × Nat)) : Prop := ∀ q ∈ e.2.2.2, mm_okV1 e q
def mm_okP (e : Nat × Nat × Nat × Nat × Nat) : Prop := ∃ (t : mm_mT) (x : MethodName), mm_mc[e.2.2.2.1]? = some t ∧ Cond.instanceMethod t.1 ∈ mm_G ∧ Cond.initialized t.1.cls ∈ mm_G ∧ (parseMethodDescriptor x.desc).map (fun d => d.parameters.length) = some e.2.2.1 ∧ ((e.2.2.2.2 = 1 ∧ t.1.name = "<init>" ∧ t.2.2.2.1 = none ∧ x = t.1 ∧ Cond.methodLink (mm_cn e.1) e.2.1 t.1 ∈ mm_G) ∨ (e.2.2.2.2 = 2 ∧ x.name ≠ "<init>" ∧ t.1 = ⟨t.1.cls, x.name, x.desc⟩ ∧ Cond.methodLink (mm_cn e.1) e.2.1 x ∈ mm_G ∧ Cond.sameMethod x.cls t.1.cls x.name x.desc ∈ mm_G ∧ Cond.superclass (mm_cn e.1) x.cls ∈ mm_G ∧ (x.cls = t.1.cls ∨ Cond.superclass x.cls t.1.cls ∈ mm_G)) ∨ (e.2.2.2.2 = 3 ∧ t.1.name = "<init>" ∧ t.2.2.2.1 = none ∧ x = t.1 ∧ ∃ host : String, (mm_cn e.1, e.2.1, t.1, host) ∈ mm_E3))
def mm_okO (e : Nat × Nat × Unit) : Prop := Cond.methodLink (mm_cn e.1) e.2.1 Lib.objectInit ∈ mm_G
def mm_okA (e : Nat × Nat × Unit) : Prop := Cond.methodLink (mm_cn e.1) e.2.1 arraycopyName ∈ mm_G
def mm_okM (e : Nat × Nat × Nat) : Prop := (e.2.2 = 0 ∧ Cond.methodLink (mm_cn e.1) e.2.1 Lib.Math.min.name ∈ mm_G) ∨ (e.2.2 = 1 ∧ Cond.methodLink (mm_cn e.1) e.2.1 Lib.Math.max.name ∈ mm_G)
def mm_okN (e : Nat × Nat × Nat) : Prop := e.2.2 < 13 ∧ Cond.classLink (mm_cn e.1) e.2.1 (mm_ck e.2.2) ∈ mm_G ∧ Cond.instantiable (mm_ck e.2.2) (mm_NF e.2.2) ∈ mm_G ∧ Cond.initialized (mm_ck e.2.2) ∈ mm_G
def mm_ce (k : Nat) : String := if k = 16 then "PennyMore$Buyer" else if k = 17 then "PennyMore$Shop" else "PennyMore$Tape"
def mm_okR (e : Nat × Nat × Nat) : Prop := (e.2.2 = 16 ∨ e.2.2 = 17 ∨ e.2.2 = 18) ∧ Cond.classLink (mm_cn e.1) e.2.1 (mm_ce e.2.2) ∈ mm_G ∧ mm_ce e.2.2 ∈ mm_E2
def mm_okI (e : Nat × Nat × String × List Nat) : Prop := Cond.classLink (mm_cn e.1) e.2.1 e.2.2.1 ∈ mm_G ∧ (∀ k ∈ e.2.2.2, mm_ck k = e.2.2.1 ∨ (mm_ck k, e.2.2.1) ∈ mm_E1) ∧ ∀ k, mm_bk k = true → k ∉ e.2.2.2 → (mm_ck k, e.2.2.1) ∈ mm_NC
def mm_okC (e : Nat × Nat × Value) : Prop := (∃ v : Int32, e.2.2 = .int v ∧ Cond.constant (mm_cn e.1) e.2.1 v ∈ mm_G) ∨ (∃ k : Nat, k < 12 ∧ e.2.2 = .ref (1000000 + 2 * k) ∧ e.1 = 5 ∧ e.2.1 = (mm_sx k).1)
def mm_ok2 (e : Nat × Nat × Int64) : Prop := Cond.constantLong (mm_cn e.1) e.2.1 e.2.2 ∈ mm_G
end
section
theorem gw_0 : (Jvm.Cond.fieldLink "PennyMore$Buyer" (9 : Nat) "PennyMore$Buyer" "kind" "I") ∈ mm_G := mm_gi_2 (i := 36) rfl rfl
theorem gw_1 : (Jvm.Cond.fieldLink "PennyMore$Buyer" (15 : Nat) "PennyMore$Buyer" "number" "I") ∈ mm_G := mm_gi_2 (i := 39) rfl rfl
theorem gw_2 : (Jvm.Cond.fieldLink "PennyMore$Buyer" (18 : Nat) "PennyMore$Buyer" "v" "I") ∈ mm_G := mm_gi_2 (i := 48) rfl rfl
theorem gw_3 : (Jvm.Cond.fieldLink "PennyMore$Buyer" (21 : Nat) "PennyMore$Buyer" "worth" "I") ∈ mm_G := mm_gi_2 (i := 60) rfl rfl
theorem gw_4 : (Jvm.Cond.fieldLink "PennyMore$Day" (11 : Nat) "PennyMore$Day" "buyers" "[LPennyMore$Buyer;") ∈ mm_G := mm_gi_1 (i := 91) rfl rfl
theorem gw_5 : (Jvm.Cond.fieldLink "PennyMore$Day" (17 : Nat) "PennyMore$Day" "friends" "[I") ∈ mm_G := mm_gi_1 (i := 93) rfl rfl
theorem gw_6 : (Jvm.Cond.fieldLink "PennyMore$Day" (21 : Nat) "PennyMore$Day" "tells" "[I") ∈ mm_G := mm_gi_1 (i := 95) rfl rfl
theorem gw_7 : (Jvm.Cond.fieldLink "PennyMore$Day" (24 : Nat) "PennyMore$Day" "aways" "[I") ∈ mm_G := mm_gi_1 (i := 98) rfl rfl
theorem gw_8 : (Jvm.Cond.fieldLink "PennyMore$Day" (27 : Nat) "PennyMore$Day" "gained" "[I") ∈ mm_G := mm_gi_1 (i := 100) rfl rfl
theorem gw_9 : (Jvm.Cond.fieldLink "PennyMore$Day" (30 : Nat) "PennyMore$Day" "row" "[I") ∈ mm_G := mm_gi_1 (i := 102) rfl rfl
theorem gw_10 : (Jvm.Cond.fieldLink "PennyMore$Day" (33 : Nat) "PennyMore$Day" "film" "[I") ∈ mm_G := mm_gi_1 (i := 104) rfl rfl
theorem gw_11 : (Jvm.Cond.fieldLink "PennyMore$Day" (38 : Nat) "PennyMore$Day" "measures" "[I") ∈ mm_G := mm_gi_1 (i := 106) rfl rfl
theorem gw_12 : (Jvm.Cond.fieldLink "PennyMore$Day" (41 : Nat) "PennyMore$Day" "price" "I") ∈ mm_G := mm_gi_1 (i := 116) rfl rfl
theorem gw_13 : (Jvm.Cond.fieldLink "PennyMore$Day" (45 : Nat) "PennyMore$Day" "loaves" "I") ∈ mm_G := mm_gi_1 (i := 121) rfl rfl
theorem gw_14 : (Jvm.Cond.fieldLink "PennyMore$Day" (48 : Nat) "PennyMore$Day" "shop" "LPennyMore$Shop;") ∈ mm_G := mm_gi_1 (i := 107) rfl rfl
theorem gw_15 : (Jvm.Cond.fieldLink "PennyMore$Day" (52 : Nat) "PennyMore$Shop" "fee" "I") ∈ mm_G := mm_gi_1 (i := 51) rfl rfl
theorem gw_16 : (Jvm.Cond.fieldLink "PennyMore$Day" (55 : Nat) "PennyMore$Day" "fee" "I") ∈ mm_G := mm_gi_1 (i := 109) rfl rfl
theorem gw_17 : (Jvm.Cond.fieldLink "PennyMore$Day" (62 : Nat) "PennyMore$Day" "known" "I") ∈ mm_G := mm_gi_1 (i := 112) rfl rfl
theorem gw_18 : (Jvm.Cond.fieldLink "PennyMore$Day" (65 : Nat) "PennyMore$Day" "standing" "I") ∈ mm_G := mm_gi_1 (i := 114) rfl rfl
theorem gw_19 : (Jvm.Cond.fieldLink "PennyMore$Day" (68 : Nat) "PennyMore$Day" "till" "I") ∈ mm_G := mm_gi_1 (i := 124) rfl rfl
theorem gw_20 : (Jvm.Cond.fieldLink "PennyMore$Day" (71 : Nat) "PennyMore$Day" "turns" "I") ∈ mm_G := mm_gi_1 (i := 126) rfl rfl
theorem gw_21 : (Jvm.Cond.fieldLink "PennyMore$Day" (74 : Nat) "PennyMore$Day" "slips" "I") ∈ mm_G := mm_gi_1 (i := 128) rfl rfl
theorem gw_22 : (Jvm.Cond.fieldLink "PennyMore$Day" (77 : Nat) "PennyMore$Day" "filmed" "I") ∈ mm_G := mm_gi_1 (i := 130) rfl rfl
theorem gw_23 : (Jvm.Cond.fieldLink "PennyMore$Day" (91 : Nat) "PennyMore$Shop" "away" "I") ∈ mm_G := mm_gi_1 (i := 49) rfl rfl
theorem gw_24 : (Jvm.Cond.fieldLink "PennyMore$Day" (94 : Nat) "PennyMore$Day" "value" "I") ∈ mm_G := mm_gi_1 (i := 134) rfl rfl
theorem gw_25 : (Jvm.Cond.fieldLink "PennyMore$Day" (97 : Nat) "PennyMore$Day" "cost" "I") ∈ mm_G := mm_gi_1 (i := 136) rfl rfl
theorem gw_26 : (Jvm.Cond.fieldLink "PennyMore$Day" (100 : Nat) "PennyMore$Buyer" "kind" "I") ∈ mm_G := mm_gi_2 (i := 38) rfl rfl
theorem gw_27 : (Jvm.Cond.fieldLink "PennyMore$Day" (107 : Nat) "PennyMore$Buyer" "worth" "I") ∈ mm_G := mm_gi_2 (i := 62) rfl rfl
theorem gw_28 : (Jvm.Cond.fieldLink "PennyMore$Day" (124 : Nat) "PennyMore$Shop" "up" "I") ∈ mm_G := mm_gi_1 (i := 42) rfl rfl
theorem gw_29 : (Jvm.Cond.fieldLink "PennyMore$Day" (133 : Nat) "PennyMore$Shop" "down" "I") ∈ mm_G := mm_gi_1 (i := 46) rfl rfl
theorem gw_30 : (Jvm.Cond.fieldLink "PennyMore$Falling" (9 : Nat) "PennyMore$Day" "price" "I") ∈ mm_G := mm_gi_1 (i := 117) rfl rfl
theorem gw_31 : (Jvm.Cond.sameField "PennyMore$Falling" "PennyMore$Buyer" "v" "I") ∈ mm_G := mm_gi_2 (i := 50) rfl rfl
theorem gw_32 : (Jvm.Cond.fieldLink "PennyMore$Falling" (15 : Nat) "PennyMore$Falling" "v" "I") ∈ mm_G := mm_gi_2 (i := 49) rfl rfl
theorem gw_33 : (Jvm.Cond.sameField "PennyMore$Falling" "PennyMore$Buyer" "number" "I") ∈ mm_G := mm_gi_2 (i := 43) rfl rfl
theorem gw_34 : (Jvm.Cond.fieldLink "PennyMore$Falling" (20 : Nat) "PennyMore$Falling" "number" "I") ∈ mm_G := mm_gi_2 (i := 42) rfl rfl
theorem gw_35 : (Jvm.Cond.fieldLink "PennyMore$Late" (9 : Nat) "PennyMore$Day" "standing" "I") ∈ mm_G := mm_gi_1 (i := 113) rfl rfl
theorem gw_36 : (Jvm.Cond.sameField "PennyMore$Late" "PennyMore$Buyer" "v" "I") ∈ mm_G := mm_gi_2 (i := 56) rfl rfl
theorem gw_37 : (Jvm.Cond.fieldLink "PennyMore$Late" (15 : Nat) "PennyMore$Late" "v" "I") ∈ mm_G := mm_gi_2 (i := 55) rfl rfl
theorem gw_38 : (Jvm.Cond.sameField "PennyMore$Late" "PennyMore$Buyer" "number" "I") ∈ mm_G := mm_gi_2 (i := 47) rfl rfl
theorem gw_39 : (Jvm.Cond.fieldLink "PennyMore$Late" (20 : Nat) "PennyMore$Late" "number" "I") ∈ mm_G := mm_gi_2 (i := 46) rfl rfl
theorem gw_40 : (Jvm.Cond.sameField "PennyMore$Plain" "PennyMore$Buyer" "v" "I") ∈ mm_G := mm_gi_2 (i := 52) rfl rfl
theorem gw_41 : (Jvm.Cond.fieldLink "PennyMore$Plain" (15 : Nat) "PennyMore$Plain" "v" "I") ∈ mm_G := mm_gi_2 (i := 51) rfl rfl
theorem gw_42 : (Jvm.Cond.fieldLink "PennyMore$Reader" (9 : Nat) "PennyMore$Reader" "text" "[I") ∈ mm_G := mm_gi_1 (i := 187) rfl rfl
theorem gw_43 : (Jvm.Cond.fieldLink "PennyMore$Reader" (13 : Nat) "PennyMore$Reader" "size" "I") ∈ mm_G := mm_gi_1 (i := 185) rfl rfl
theorem gw_44 : (Jvm.Cond.fieldLink "PennyMore$Reader" (17 : Nat) "PennyMore$Reader" "shop" "LPennyMore$Shop;") ∈ mm_G := mm_gi_1 (i := 189) rfl rfl
theorem gw_45 : (Jvm.Cond.fieldLink "PennyMore$Reader" (26 : Nat) "PennyMore$Reader" "at" "I") ∈ mm_G := mm_gi_1 (i := 188) rfl rfl
theorem gw_46 : (Jvm.Cond.fieldLink "PennyMore$Reader" (86 : Nat) "PennyMore$Shop" "up" "I") ∈ mm_G := mm_gi_1 (i := 40) rfl rfl
theorem gw_47 : (Jvm.Cond.fieldLink "PennyMore$Reader" (89 : Nat) "PennyMore$Shop" "down" "I") ∈ mm_G := mm_gi_1 (i := 44) rfl rfl
theorem gw_48 : (Jvm.Cond.fieldLink "PennyMore$Reader" (98 : Nat) "PennyMore$Shop" "away" "I") ∈ mm_G := mm_gi_1 (i := 48) rfl rfl
theorem gw_49 : (Jvm.Cond.fieldLink "PennyMore$Reader" (101 : Nat) "PennyMore$Shop" "fee" "I") ∈ mm_G := mm_gi_1 (i := 53) rfl rfl
theorem gw_50 : (Jvm.Cond.fieldLink "PennyMore$Shop" (9 : Nat) "PennyMore$Shop" "sorts" "[I") ∈ mm_G := mm_gi_1 (i := 55) rfl rfl
theorem gw_51 : (Jvm.Cond.fieldLink "PennyMore$Shop" (13 : Nat) "PennyMore$Shop" "amounts" "[I") ∈ mm_G := mm_gi_1 (i := 56) rfl rfl
theorem gw_52 : (Jvm.Cond.fieldLink "PennyMore$Shop" (16 : Nat) "PennyMore$Shop" "ends" "[I") ∈ mm_G := mm_gi_1 (i := 57) rfl rfl
theorem gw_53 : (Jvm.Cond.fieldLink "PennyMore$Shop" (21 : Nat) "PennyMore$Shop" "code" "[I") ∈ mm_G := mm_gi_1 (i := 58) rfl rfl
theorem gw_54 : (Jvm.Cond.fieldLink "PennyMore$Shop" (27 : Nat) "PennyMore$Shop" "clauses" "I") ∈ mm_G := mm_gi_1 (i := 59) rfl rfl
theorem gw_55 : (Jvm.Cond.fieldLink "PennyMore$Shop" (31 : Nat) "PennyMore$Shop" "coded" "I") ∈ mm_G := mm_gi_1 (i := 60) rfl rfl
theorem gw_56 : (Jvm.Cond.fieldLink "PennyMore$Shop" (34 : Nat) "PennyMore$Shop" "up" "I") ∈ mm_G := mm_gi_1 (i := 39) rfl rfl
theorem gw_57 : (Jvm.Cond.fieldLink "PennyMore$Shop" (37 : Nat) "PennyMore$Shop" "down" "I") ∈ mm_G := mm_gi_1 (i := 43) rfl rfl
theorem gw_58 : (Jvm.Cond.fieldLink "PennyMore$Shop" (40 : Nat) "PennyMore$Shop" "away" "I") ∈ mm_G := mm_gi_1 (i := 47) rfl rfl
theorem gw_59 : (Jvm.Cond.fieldLink "PennyMore$Shop" (43 : Nat) "PennyMore$Shop" "fee" "I") ∈ mm_G := mm_gi_1 (i := 52) rfl rfl
theorem gw_60 : (Jvm.Cond.fieldLink "PennyMore$Sure" (9 : Nat) "PennyMore$Day" "loaves" "I") ∈ mm_G := mm_gi_1 (i := 122) rfl rfl
theorem gw_61 : (Jvm.Cond.sameField "PennyMore$Sure" "PennyMore$Buyer" "v" "I") ∈ mm_G := mm_gi_2 (i := 54) rfl rfl
theorem gw_62 : (Jvm.Cond.fieldLink "PennyMore$Sure" (15 : Nat) "PennyMore$Sure" "v" "I") ∈ mm_G := mm_gi_2 (i := 53) rfl rfl
theorem gw_63 : (Jvm.Cond.fieldLink "PennyMore$Tape" (9 : Nat) "PennyMore$Tape" "items" "[J") ∈ mm_G := mm_gi_1 (i := 206) rfl rfl
theorem gw_64 : (Jvm.Cond.fieldLink "PennyMore$Tape" (13 : Nat) "PennyMore$Tape" "sort" "I") ∈ mm_G := mm_gi_1 (i := 208) rfl rfl
theorem gw_65 : (Jvm.Cond.fieldLink "PennyMore$Tape" (17 : Nat) "PennyMore$Tape" "size" "I") ∈ mm_G := mm_gi_1 (i := 210) rfl rfl
theorem gw_66 : (Jvm.Cond.fieldLink "PennyMore$Told" (9 : Nat) "PennyMore$Day" "tells" "[I") ∈ mm_G := mm_gi_1 (i := 96) rfl rfl
theorem gw_67 : (Jvm.Cond.sameField "PennyMore$Told" "PennyMore$Buyer" "number" "I") ∈ mm_G := mm_gi_2 (i := 41) rfl rfl
theorem gw_68 : (Jvm.Cond.fieldLink "PennyMore$Told" (15 : Nat) "PennyMore$Told" "number" "I") ∈ mm_G := mm_gi_2 (i := 40) rfl rfl
theorem gw_69 : (Jvm.Cond.fieldLink "PennyMore$Told" (21 : Nat) "PennyMore$Day" "price" "I") ∈ mm_G := mm_gi_1 (i := 119) rfl rfl
theorem gw_70 : (Jvm.Cond.sameField "PennyMore$Told" "PennyMore$Buyer" "v" "I") ∈ mm_G := mm_gi_2 (i := 59) rfl rfl
theorem gw_71 : (Jvm.Cond.fieldLink "PennyMore$Told" (43 : Nat) "PennyMore$Told" "v" "I") ∈ mm_G := mm_gi_2 (i := 58) rfl rfl
theorem gw_72 : (Jvm.Cond.fieldLink "PennyMore$Waiting" (9 : Nat) "PennyMore$Day" "value" "I") ∈ mm_G := mm_gi_1 (i := 132) rfl rfl
theorem gw_73 : (Jvm.Cond.fieldLink "PennyMore$Waiting" (15 : Nat) "PennyMore$Day" "price" "I") ∈ mm_G := mm_gi_1 (i := 118) rfl rfl
theorem gw_74 : (Jvm.Cond.sameField "PennyMore$Waiting" "PennyMore$Buyer" "number" "I") ∈ mm_G := mm_gi_2 (i := 45) rfl rfl
theorem gw_75 : (Jvm.Cond.fieldLink "PennyMore$Waiting" (18 : Nat) "PennyMore$Waiting" "number" "I") ∈ mm_G := mm_gi_2 (i := 44) rfl rfl
theorem gw_76 : (Jvm.Cond.fieldLink "PennyMore" (17 : Nat) "PennyMore" "now" "LPennyMore$Day;") ∈ mm_G := mm_gi_1 (i := 220) rfl rfl
theorem gw_77 : (Jvm.Cond.fieldLink "PennyMore" (23 : Nat) "PennyMore" "image" "LPennyMore$Day;") ∈ mm_G := mm_gi_1 (i := 221) rfl rfl
theorem gw_78 : (Jvm.Cond.fieldLink "PennyMore" (26 : Nat) "PennyMore" "trial" "LPennyMore$Day;") ∈ mm_G := mm_gi_1 (i := 222) rfl rfl
theorem gw_79 : (Jvm.Cond.fieldLink "PennyMore" (29 : Nat) "PennyMore" "base" "LPennyMore$Day;") ∈ mm_G := mm_gi_1 (i := 223) rfl rfl
theorem gw_80 : (Jvm.Cond.fieldLink "PennyMore" (32 : Nat) "PennyMore" "shops" "[LPennyMore$Shop;") ∈ mm_G := mm_gi_1 (i := 224) rfl rfl
theorem gw_81 : (Jvm.Cond.fieldLink "PennyMore" (39 : Nat) "PennyMore" "reader" "LPennyMore$Reader;") ∈ mm_G := mm_gi_1 (i := 225) rfl rfl
theorem gw_82 : (Jvm.Cond.fieldLink "PennyMore" (45 : Nat) "PennyMore" "tapes" "[LPennyMore$Tape;") ∈ mm_G := mm_gi_1 (i := 226) rfl rfl
theorem gw_83 : (Jvm.Cond.fieldLink "PennyMore" (50 : Nat) "PennyMore" "ran" "[I") ∈ mm_G := mm_gi_1 (i := 227) rfl rfl
theorem gw_84 : (Jvm.Cond.fieldLink "PennyMore" (54 : Nat) "PennyMore" "lineup" "[I") ∈ mm_G := mm_gi_1 (i := 228) rfl rfl
theorem gw_85 : (Jvm.Cond.fieldLink "PennyMore" (57 : Nat) "PennyMore" "bestLineup" "[I") ∈ mm_G := mm_gi_1 (i := 229) rfl rfl
theorem gw_86 : (Jvm.Cond.fieldLink "PennyMore" (60 : Nat) "PennyMore" "values" "[I") ∈ mm_G := mm_gi_1 (i := 230) rfl rfl
theorem gw_87 : (Jvm.Cond.fieldLink "PennyMore" (65 : Nat) "PennyMore$Day" "known" "I") ∈ mm_G := mm_gi_1 (i := 111) rfl rfl
theorem gw_88 : (Jvm.Cond.fieldLink "PennyMore" (81 : Nat) "PennyMore$Day" "buyers" "[LPennyMore$Buyer;") ∈ mm_G := mm_gi_1 (i := 92) rfl rfl
theorem gw_89 : (Jvm.Cond.fieldLink "PennyMore" (85 : Nat) "PennyMore$Buyer" "kind" "I") ∈ mm_G := mm_gi_2 (i := 37) rfl rfl
theorem gw_90 : (Jvm.Cond.fieldLink "PennyMore" (88 : Nat) "PennyMore$Buyer" "v" "I") ∈ mm_G := mm_gi_2 (i := 57) rfl rfl
theorem gw_91 : (Jvm.Cond.fieldLink "PennyMore" (91 : Nat) "PennyMore$Buyer" "worth" "I") ∈ mm_G := mm_gi_2 (i := 61) rfl rfl
theorem gw_92 : (Jvm.Cond.fieldLink "PennyMore" (94 : Nat) "PennyMore$Day" "friends" "[I") ∈ mm_G := mm_gi_1 (i := 94) rfl rfl
theorem gw_93 : (Jvm.Cond.fieldLink "PennyMore" (101 : Nat) "PennyMore$Day" "aways" "[I") ∈ mm_G := mm_gi_1 (i := 99) rfl rfl
theorem gw_94 : (Jvm.Cond.fieldLink "PennyMore" (111 : Nat) "PennyMore$Day" "value" "I") ∈ mm_G := mm_gi_1 (i := 133) rfl rfl
theorem gw_95 : (Jvm.Cond.fieldLink "PennyMore" (114 : Nat) "PennyMore$Day" "cost" "I") ∈ mm_G := mm_gi_1 (i := 135) rfl rfl
theorem gw_96 : (Jvm.Cond.fieldLink "PennyMore" (120 : Nat) "PennyMore$Day" "gained" "[I") ∈ mm_G := mm_gi_1 (i := 101) rfl rfl
theorem gw_97 : (Jvm.Cond.fieldLink "PennyMore" (124 : Nat) "PennyMore$Day" "tells" "[I") ∈ mm_G := mm_gi_1 (i := 97) rfl rfl
theorem gw_98 : (Jvm.Cond.fieldLink "PennyMore" (130 : Nat) "PennyMore$Day" "price" "I") ∈ mm_G := mm_gi_1 (i := 120) rfl rfl
theorem gw_99 : (Jvm.Cond.fieldLink "PennyMore" (133 : Nat) "PennyMore$Day" "loaves" "I") ∈ mm_G := mm_gi_1 (i := 123) rfl rfl
theorem gw_100 : (Jvm.Cond.fieldLink "PennyMore" (139 : Nat) "PennyMore$Reader" "size" "I") ∈ mm_G := mm_gi_1 (i := 186) rfl rfl
theorem gw_101 : (Jvm.Cond.fieldLink "PennyMore" (142 : Nat) "PennyMore" "shopsRead" "I") ∈ mm_G := mm_gi_1 (i := 231) rfl rfl
theorem gw_102 : (Jvm.Cond.fieldLink "PennyMore" (155 : Nat) "PennyMore$Day" "shop" "LPennyMore$Shop;") ∈ mm_G := mm_gi_1 (i := 108) rfl rfl
theorem gw_103 : (Jvm.Cond.fieldLink "PennyMore" (159 : Nat) "PennyMore$Shop" "up" "I") ∈ mm_G := mm_gi_1 (i := 41) rfl rfl
theorem gw_104 : (Jvm.Cond.fieldLink "PennyMore" (162 : Nat) "PennyMore$Shop" "down" "I") ∈ mm_G := mm_gi_1 (i := 45) rfl rfl
theorem gw_105 : (Jvm.Cond.fieldLink "PennyMore" (165 : Nat) "PennyMore$Shop" "away" "I") ∈ mm_G := mm_gi_1 (i := 50) rfl rfl
theorem gw_106 : (Jvm.Cond.fieldLink "PennyMore" (168 : Nat) "PennyMore$Shop" "fee" "I") ∈ mm_G := mm_gi_1 (i := 54) rfl rfl
theorem gw_107 : (Jvm.Cond.fieldLink "PennyMore" (171 : Nat) "PennyMore$Day" "till" "I") ∈ mm_G := mm_gi_1 (i := 125) rfl rfl
theorem gw_108 : (Jvm.Cond.fieldLink "PennyMore" (174 : Nat) "PennyMore$Day" "turns" "I") ∈ mm_G := mm_gi_1 (i := 127) rfl rfl
theorem gw_109 : (Jvm.Cond.fieldLink "PennyMore" (177 : Nat) "PennyMore$Day" "standing" "I") ∈ mm_G := mm_gi_1 (i := 115) rfl rfl
theorem gw_110 : (Jvm.Cond.fieldLink "PennyMore" (242 : Nat) "PennyMore$Day" "row" "[I") ∈ mm_G := mm_gi_1 (i := 103) rfl rfl
theorem gw_111 : (Jvm.Cond.fieldLink "PennyMore" (258 : Nat) "PennyMore$Day" "slips" "I") ∈ mm_G := mm_gi_1 (i := 129) rfl rfl
theorem gw_112 : (Jvm.Cond.fieldLink "PennyMore" (268 : Nat) "PennyMore$Day" "filmed" "I") ∈ mm_G := mm_gi_1 (i := 131) rfl rfl
theorem gw_113 : (Jvm.Cond.fieldLink "PennyMore" (271 : Nat) "PennyMore$Day" "film" "[I") ∈ mm_G := mm_gi_1 (i := 105) rfl rfl
theorem gw_114 : (Jvm.Cond.fieldLink "PennyMore" (280 : Nat) "PennyMore$Tape" "sort" "I") ∈ mm_G := mm_gi_1 (i := 209) rfl rfl
theorem gw_115 : (Jvm.Cond.fieldLink "PennyMore" (283 : Nat) "PennyMore$Tape" "size" "I") ∈ mm_G := mm_gi_1 (i := 211) rfl rfl
theorem gw_116 : (Jvm.Cond.fieldLink "PennyMore" (284 : Nat) "PennyMore$Tape" "items" "[J") ∈ mm_G := mm_gi_1 (i := 207) rfl rfl
theorem gw_117 : (Jvm.Cond.fieldLink "PennyMore" (288 : Nat) "PennyMore" "imageTaken" "Z") ∈ mm_G := mm_gi_1 (i := 232) rfl rfl
theorem gw_118 : (Jvm.Cond.fieldLink "PennyMore" (347 : Nat) "PennyMore$Day" "fee" "I") ∈ mm_G := mm_gi_1 (i := 110) rfl rfl
theorem gw_119 : (Jvm.Cond.fieldLink "PennyMoreModel" (9 : Nat) "PennyMoreModel" "kind" "[I") ∈ mm_G := mm_gi_5 (i := 47) rfl rfl
theorem gw_120 : (Jvm.Cond.fieldLink "PennyMoreModel" (15 : Nat) "PennyMoreModel" "number" "[I") ∈ mm_G := mm_gi_5 (i := 48) rfl rfl
theorem gw_121 : (Jvm.Cond.fieldLink "PennyMoreModel" (18 : Nat) "PennyMoreModel" "worth" "[I") ∈ mm_G := mm_gi_5 (i := 49) rfl rfl
theorem gw_122 : (Jvm.Cond.fieldLink "PennyMoreModel" (21 : Nat) "PennyMoreModel" "friend" "[I") ∈ mm_G := mm_gi_5 (i := 50) rfl rfl
theorem gw_123 : (Jvm.Cond.fieldLink "PennyMoreModel" (24 : Nat) "PennyMoreModel" "aways" "[I") ∈ mm_G := mm_gi_5 (i := 51) rfl rfl
theorem gw_124 : (Jvm.Cond.fieldLink "PennyMoreModel" (27 : Nat) "PennyMoreModel" "gained" "[I") ∈ mm_G := mm_gi_5 (i := 52) rfl rfl
theorem gw_125 : (Jvm.Cond.fieldLink "PennyMoreModel" (30 : Nat) "PennyMoreModel" "tells" "[I") ∈ mm_G := mm_gi_5 (i := 53) rfl rfl
theorem gw_126 : (Jvm.Cond.fieldLink "PennyMoreModel" (33 : Nat) "PennyMoreModel" "row" "[I") ∈ mm_G := mm_gi_5 (i := 55) rfl rfl
theorem gw_127 : (Jvm.Cond.fieldLink "PennyMoreModel" (36 : Nat) "PennyMoreModel" "price" "I") ∈ mm_G := mm_gi_5 (i := 56) rfl rfl
theorem gw_128 : (Jvm.Cond.fieldLink "PennyMoreModel" (40 : Nat) "PennyMoreModel" "loaves" "I") ∈ mm_G := mm_gi_5 (i := 57) rfl rfl
theorem gw_129 : (Jvm.Cond.fieldLink "PennyMoreModel" (43 : Nat) "PennyMoreModel" "film" "[I") ∈ mm_G := mm_gi_5 (i := 62) rfl rfl
theorem gw_130 : (Jvm.Cond.fieldLink "PennyMoreModel" (46 : Nat) "PennyMoreModel" "holding" "I") ∈ mm_G := mm_gi_5 (i := 64) rfl rfl
theorem gw_131 : (Jvm.Cond.fieldLink "PennyMoreModel" (49 : Nat) "PennyMoreModel" "clauses" "[I") ∈ mm_G := mm_gi_5 (i := 65) rfl rfl
theorem gw_132 : (Jvm.Cond.fieldLink "PennyMoreModel" (52 : Nat) "PennyMoreModel" "clauseWord" "[I") ∈ mm_G := mm_gi_5 (i := 66) rfl rfl
theorem gw_133 : (Jvm.Cond.fieldLink "PennyMoreModel" (55 : Nat) "PennyMoreModel" "clauseN" "[I") ∈ mm_G := mm_gi_5 (i := 67) rfl rfl
theorem gw_134 : (Jvm.Cond.fieldLink "PennyMoreModel" (58 : Nat) "PennyMoreModel" "clauseFrom" "[I") ∈ mm_G := mm_gi_5 (i := 68) rfl rfl
theorem gw_135 : (Jvm.Cond.fieldLink "PennyMoreModel" (61 : Nat) "PennyMoreModel" "clauseTo" "[I") ∈ mm_G := mm_gi_5 (i := 69) rfl rfl
theorem gw_136 : (Jvm.Cond.fieldLink "PennyMoreModel" (64 : Nat) "PennyMoreModel" "codes" "[I") ∈ mm_G := mm_gi_5 (i := 70) rfl rfl
theorem gw_137 : (Jvm.Cond.fieldLink "PennyMoreModel" (67 : Nat) "PennyMoreModel" "text" "[I") ∈ mm_G := mm_gi_5 (i := 71) rfl rfl
theorem gw_138 : (Jvm.Cond.fieldLink "PennyMoreModel" (70 : Nat) "PennyMoreModel" "feeFor" "I") ∈ mm_G := mm_gi_5 (i := 73) rfl rfl
theorem gw_139 : (Jvm.Cond.fieldLink "PennyMoreModel" (73 : Nat) "PennyMoreModel" "trace" "[I") ∈ mm_G := mm_gi_5 (i := 75) rfl rfl
theorem gw_140 : (Jvm.Cond.fieldLink "PennyMoreModel" (76 : Nat) "PennyMoreModel" "tapeSort" "[I") ∈ mm_G := mm_gi_5 (i := 76) rfl rfl
theorem gw_141 : (Jvm.Cond.fieldLink "PennyMoreModel" (79 : Nat) "PennyMoreModel" "tapeSize" "[I") ∈ mm_G := mm_gi_5 (i := 77) rfl rfl
theorem gw_142 : (Jvm.Cond.fieldLink "PennyMoreModel" (82 : Nat) "PennyMoreModel" "items" "[J") ∈ mm_G := mm_gi_5 (i := 78) rfl rfl
theorem gw_143 : (Jvm.Cond.fieldLink "PennyMoreModel" (86 : Nat) "PennyMoreModel" "words" "[I") ∈ mm_G := mm_gi_5 (i := 79) rfl rfl
theorem gw_144 : (Jvm.Cond.fieldLink "PennyMoreModel" (89 : Nat) "PennyMoreModel" "wordLong" "[I") ∈ mm_G := mm_gi_5 (i := 80) rfl rfl
theorem gw_145 : (Jvm.Cond.fieldLink "PennyMoreModel" (92 : Nat) "PennyMoreModel" "letters" "[I") ∈ mm_G := mm_gi_5 (i := 81) rfl rfl
theorem gw_146 : (Jvm.Cond.fieldLink "PennyMoreModel" (95 : Nat) "PennyMoreModel" "waits" "[I") ∈ mm_G := mm_gi_5 (i := 84) rfl rfl
theorem gw_147 : (Jvm.Cond.fieldLink "PennyMoreModel" (98 : Nat) "PennyMoreModel" "stack" "[Z") ∈ mm_G := mm_gi_5 (i := 87) rfl rfl
theorem gw_148 : (Jvm.Cond.fieldLink "PennyMoreModel" (102 : Nat) "PennyMoreModel" "keptRow" "[I") ∈ mm_G := mm_gi_5 (i := 90) rfl rfl
theorem gw_149 : (Jvm.Cond.fieldLink "PennyMoreModel" (105 : Nat) "PennyMoreModel" "keptAways" "[I") ∈ mm_G := mm_gi_5 (i := 91) rfl rfl
theorem gw_150 : (Jvm.Cond.fieldLink "PennyMoreModel" (108 : Nat) "PennyMoreModel" "keptGained" "[I") ∈ mm_G := mm_gi_5 (i := 92) rfl rfl
theorem gw_151 : (Jvm.Cond.fieldLink "PennyMoreModel" (111 : Nat) "PennyMoreModel" "sorted" "[I") ∈ mm_G := mm_gi_5 (i := 98) rfl rfl
theorem gw_152 : (Jvm.Cond.fieldLink "PennyMoreModel" (114 : Nat) "PennyMoreModel" "deepRow" "[I") ∈ mm_G := mm_gi_5 (i := 101) rfl rfl
theorem gw_153 : (Jvm.Cond.fieldLink "PennyMoreModel" (117 : Nat) "PennyMoreModel" "deepAways" "[I") ∈ mm_G := mm_gi_5 (i := 102) rfl rfl
theorem gw_154 : (Jvm.Cond.fieldLink "PennyMoreModel" (120 : Nat) "PennyMoreModel" "deepGained" "[I") ∈ mm_G := mm_gi_5 (i := 103) rfl rfl
theorem gw_155 : (Jvm.Cond.fieldLink "PennyMoreModel" (123 : Nat) "PennyMoreModel" "deepNumbers" "[I") ∈ mm_G := mm_gi_5 (i := 104) rfl rfl
theorem gw_156 : (Jvm.Cond.fieldLink "PennyMoreModel" (126 : Nat) "PennyMoreModel" "imageKind" "[I") ∈ mm_G := mm_gi_5 (i := 110) rfl rfl
theorem gw_157 : (Jvm.Cond.fieldLink "PennyMoreModel" (129 : Nat) "PennyMoreModel" "imageNumber" "[I") ∈ mm_G := mm_gi_5 (i := 111) rfl rfl
theorem gw_158 : (Jvm.Cond.fieldLink "PennyMoreModel" (132 : Nat) "PennyMoreModel" "imageWorth" "[I") ∈ mm_G := mm_gi_5 (i := 112) rfl rfl
theorem gw_159 : (Jvm.Cond.fieldLink "PennyMoreModel" (135 : Nat) "PennyMoreModel" "imageFriend" "[I") ∈ mm_G := mm_gi_5 (i := 113) rfl rfl
theorem gw_160 : (Jvm.Cond.fieldLink "PennyMoreModel" (138 : Nat) "PennyMoreModel" "imageAways" "[I") ∈ mm_G := mm_gi_5 (i := 114) rfl rfl
theorem gw_161 : (Jvm.Cond.fieldLink "PennyMoreModel" (141 : Nat) "PennyMoreModel" "imageGained" "[I") ∈ mm_G := mm_gi_5 (i := 115) rfl rfl
theorem gw_162 : (Jvm.Cond.fieldLink "PennyMoreModel" (144 : Nat) "PennyMoreModel" "imageTells" "[I") ∈ mm_G := mm_gi_5 (i := 116) rfl rfl
theorem gw_163 : (Jvm.Cond.fieldLink "PennyMoreModel" (147 : Nat) "PennyMoreModel" "imageRow" "[I") ∈ mm_G := mm_gi_5 (i := 117) rfl rfl
theorem gw_164 : (Jvm.Cond.fieldLink "PennyMoreModel" (150 : Nat) "PennyMoreModel" "imageNumbers" "[I") ∈ mm_G := mm_gi_5 (i := 118) rfl rfl
theorem gw_165 : (Jvm.Cond.fieldLink "PennyMoreModel" (153 : Nat) "PennyMoreModel" "imageFilm" "[I") ∈ mm_G := mm_gi_5 (i := 119) rfl rfl
theorem gw_166 : (Jvm.Cond.fieldLink "PennyMoreModel" (156 : Nat) "PennyMoreModel" "shifted" "[J") ∈ mm_G := mm_gi_5 (i := 121) rfl rfl
theorem gw_167 : (Jvm.Cond.fieldLink "PennyMoreModel" (159 : Nat) "PennyMoreModel" "buyers" "I") ∈ mm_G := mm_gi_5 (i := 46) rfl rfl
theorem gw_168 : (Jvm.Cond.fieldLink "PennyMoreModel" (166 : Nat) "PennyMoreModel" "inRow" "I") ∈ mm_G := mm_gi_5 (i := 54) rfl rfl
theorem gw_169 : (Jvm.Cond.fieldLink "PennyMoreModel" (184 : Nat) "PennyMoreModel" "written" "I") ∈ mm_G := mm_gi_5 (i := 72) rfl rfl
theorem gw_170 : (Jvm.Cond.fieldLink "PennyMoreModel" (187 : Nat) "PennyMoreModel" "at0" "I") ∈ mm_G := mm_gi_5 (i := 82) rfl rfl
theorem gw_171 : (Jvm.Cond.fieldLink "PennyMoreModel" (200 : Nat) "PennyMoreModel" "coded" "I") ∈ mm_G := mm_gi_5 (i := 83) rfl rfl
theorem gw_172 : (Jvm.Cond.fieldLink "PennyMoreModel" (209 : Nat) "PennyMoreModel" "waitMany" "I") ∈ mm_G := mm_gi_5 (i := 85) rfl rfl
theorem gw_173 : (Jvm.Cond.fieldLink "PennyMoreModel" (212 : Nat) "PennyMoreModel" "opened" "I") ∈ mm_G := mm_gi_5 (i := 86) rfl rfl
theorem gw_174 : (Jvm.Cond.fieldLink "PennyMoreModel" (237 : Nat) "PennyMoreModel" "shops" "I") ∈ mm_G := mm_gi_5 (i := 63) rfl rfl
theorem gw_175 : (Jvm.Cond.fieldLink "PennyMoreModel" (257 : Nat) "PennyMoreModel" "till" "I") ∈ mm_G := mm_gi_5 (i := 58) rfl rfl
theorem gw_176 : (Jvm.Cond.fieldLink "PennyMoreModel" (260 : Nat) "PennyMoreModel" "turns" "I") ∈ mm_G := mm_gi_5 (i := 59) rfl rfl
theorem gw_177 : (Jvm.Cond.fieldLink "PennyMoreModel" (284 : Nat) "PennyMoreModel" "bought" "I") ∈ mm_G := mm_gi_5 (i := 88) rfl rfl
theorem gw_178 : (Jvm.Cond.fieldLink "PennyMoreModel" (287 : Nat) "PennyMoreModel" "refused" "I") ∈ mm_G := mm_gi_5 (i := 89) rfl rfl
theorem gw_179 : (Jvm.Cond.fieldLink "PennyMoreModel" (296 : Nat) "PennyMoreModel" "keptIn" "I") ∈ mm_G := mm_gi_5 (i := 93) rfl rfl
theorem gw_180 : (Jvm.Cond.fieldLink "PennyMoreModel" (299 : Nat) "PennyMoreModel" "keptPrice" "I") ∈ mm_G := mm_gi_5 (i := 94) rfl rfl
theorem gw_181 : (Jvm.Cond.fieldLink "PennyMoreModel" (302 : Nat) "PennyMoreModel" "keptLoaves" "I") ∈ mm_G := mm_gi_5 (i := 95) rfl rfl
theorem gw_182 : (Jvm.Cond.fieldLink "PennyMoreModel" (305 : Nat) "PennyMoreModel" "keptTill" "I") ∈ mm_G := mm_gi_5 (i := 96) rfl rfl
theorem gw_183 : (Jvm.Cond.fieldLink "PennyMoreModel" (308 : Nat) "PennyMoreModel" "keptTurns" "I") ∈ mm_G := mm_gi_5 (i := 97) rfl rfl
theorem gw_184 : (Jvm.Cond.fieldLink "PennyMoreModel" (340 : Nat) "PennyMoreModel" "odds" "I") ∈ mm_G := mm_gi_5 (i := 60) rfl rfl
theorem gw_185 : (Jvm.Cond.fieldLink "PennyMoreModel" (343 : Nat) "PennyMoreModel" "tooLong" "Z") ∈ mm_G := mm_gi_5 (i := 100) rfl rfl
theorem gw_186 : (Jvm.Cond.fieldLink "PennyMoreModel" (356 : Nat) "PennyMoreModel" "sureAbove" "J") ∈ mm_G := mm_gi_5 (i := 99) rfl rfl
theorem gw_187 : (Jvm.Cond.fieldLink "PennyMoreModel" (365 : Nat) "PennyMoreModel" "filmed" "I") ∈ mm_G := mm_gi_5 (i := 61) rfl rfl
theorem gw_188 : (Jvm.Cond.fieldLink "PennyMoreModel" (371 : Nat) "PennyMoreModel" "hasImage" "Z") ∈ mm_G := mm_gi_5 (i := 105) rfl rfl
theorem gw_189 : (Jvm.Cond.fieldLink "PennyMoreModel" (374 : Nat) "PennyMoreModel" "imageBuyers" "I") ∈ mm_G := mm_gi_5 (i := 106) rfl rfl
theorem gw_190 : (Jvm.Cond.fieldLink "PennyMoreModel" (377 : Nat) "PennyMoreModel" "imageOdds" "I") ∈ mm_G := mm_gi_5 (i := 107) rfl rfl
theorem gw_191 : (Jvm.Cond.fieldLink "PennyMoreModel" (380 : Nat) "PennyMoreModel" "imageFilmed" "I") ∈ mm_G := mm_gi_5 (i := 108) rfl rfl
theorem gw_192 : (Jvm.Cond.fieldLink "PennyMoreModel" (383 : Nat) "PennyMoreModel" "imageHolding" "I") ∈ mm_G := mm_gi_5 (i := 109) rfl rfl
theorem gw_193 : (Jvm.Cond.fieldLink "PennyMoreModel" (386 : Nat) "PennyMoreModel" "ran" "I") ∈ mm_G := mm_gi_5 (i := 74) rfl rfl
theorem gw_194 : (Jvm.Cond.fieldLink "PennyMoreModel" (398 : Nat) "PennyMoreModel" "acting" "I") ∈ mm_G := mm_gi_5 (i := 120) rfl rfl
theorem gw_195 : (Jvm.Cond.code ({ cls := "PennyMore$Reader", name := "word", desc := "(Ljava/lang/String;)Z" } : Jvm.MethodName) prog_7_method_6_code (3 : Nat) (Option.some Jvm.ClassFile.FieldType.boolean)) ∈ mm_G := mm_gi_3 (i := 6) rfl rfl
theorem gw_196 : (Jvm.Cond.code ({ cls := "PennyMore$Reader", name := "next", desc := "()I" } : Jvm.MethodName) prog_7_method_5_code (1 : Nat) (Option.some Jvm.ClassFile.FieldType.int)) ∈ mm_G := mm_gi_2 (i := 228) rfl rfl
theorem gw_197 : (Jvm.Cond.code ({ cls := "PennyMore$Reader", name := "readInto", desc := "(LPennyMore$Shop;)I" } : Jvm.MethodName) prog_7_method_4_code (3 : Nat) (Option.some Jvm.ClassFile.FieldType.int)) ∈ mm_G := mm_gi_2 (i := 219) rfl rfl
theorem gw_198 : (Jvm.Cond.code ({ cls := "PennyMore$Reader", name := "empty", desc := "()V" } : Jvm.MethodName) prog_7_method_3_code (1 : Nat) (Option.none : Option Jvm.ClassFile.FieldType)) ∈ mm_G := mm_gi_3 (i := 154) rfl rfl
theorem gw_199 : (Jvm.Cond.code ({ cls := "PennyMore$Reader", name := "add", desc := "(I)Z" } : Jvm.MethodName) prog_7_method_2_code (2 : Nat) (Option.some Jvm.ClassFile.FieldType.boolean)) ∈ mm_G := mm_gi_2 (i := 211) rfl rfl
theorem gw_200 : (Jvm.Cond.code ({ cls := "PennyMore$Reader", name := "<init>", desc := "()V" } : Jvm.MethodName) prog_7_method_1_code (1 : Nat) (Option.none : Option Jvm.ClassFile.FieldType)) ∈ mm_G := mm_gi_1 (i := 183) rfl rfl
theorem gw_201 : (Jvm.Cond.code ({ cls := "PennyMore$Plain", name := "waits", desc := "(I[I)I" } : Jvm.MethodName) prog_6_method_3_code (3 : Nat) (Option.some Jvm.ClassFile.FieldType.int)) ∈ mm_G := mm_gi_4 (i := 189) rfl rfl
theorem gw_202 : (Jvm.Cond.code ({ cls := "PennyMore$Plain", name := "does", desc := "(LPennyMore$Day;)I" } : Jvm.MethodName) prog_6_method_2_code (2 : Nat) (Option.some Jvm.ClassFile.FieldType.int)) ∈ mm_G := mm_gi_3 (i := 210) rfl rfl
theorem gw_203 : (Jvm.Cond.code ({ cls := "PennyMore$Plain", name := "<init>", desc := "(IIII)V" } : Jvm.MethodName) prog_6_method_1_code (5 : Nat) (Option.none : Option Jvm.ClassFile.FieldType)) ∈ mm_G := mm_gi_2 (i := 31) rfl rfl
theorem gw_204 : (Jvm.Cond.code ({ cls := "PennyMore$Late", name := "tells", desc := "(I[I)I" } : Jvm.MethodName) prog_5_method_3_code (3 : Nat) (Option.some Jvm.ClassFile.FieldType.int)) ∈ mm_G := mm_gi_4 (i := 221) rfl rfl
theorem gw_205 : (Jvm.Cond.code ({ cls := "PennyMore$Late", name := "does", desc := "(LPennyMore$Day;)I" } : Jvm.MethodName) prog_5_method_2_code (2 : Nat) (Option.some Jvm.ClassFile.FieldType.int)) ∈ mm_G := mm_gi_3 (i := 198) rfl rfl
theorem gw_206 : (Jvm.Cond.code ({ cls := "PennyMore$Late", name := "<init>", desc := "(IIII)V" } : Jvm.MethodName) prog_5_method_1_code (5 : Nat) (Option.none : Option Jvm.ClassFile.FieldType)) ∈ mm_G := mm_gi_2 (i := 109) rfl rfl
theorem gw_207 : (Jvm.Cond.code ({ cls := "PennyMore$Falling", name := "tells", desc := "(I[I)I" } : Jvm.MethodName) prog_4_method_3_code (3 : Nat) (Option.some Jvm.ClassFile.FieldType.int)) ∈ mm_G := mm_gi_4 (i := 212) rfl rfl
theorem gw_208 : (Jvm.Cond.code ({ cls := "PennyMore$Falling", name := "does", desc := "(LPennyMore$Day;)I" } : Jvm.MethodName) prog_4_method_2_code (2 : Nat) (Option.some Jvm.ClassFile.FieldType.int)) ∈ mm_G := mm_gi_3 (i := 193) rfl rfl
theorem gw_209 : (Jvm.Cond.code ({ cls := "PennyMore$Falling", name := "<init>", desc := "(IIII)V" } : Jvm.MethodName) prog_4_method_1_code (5 : Nat) (Option.none : Option Jvm.ClassFile.FieldType)) ∈ mm_G := mm_gi_2 (i := 87) rfl rfl
theorem gw_210 : (Jvm.Cond.code ({ cls := "PennyMore$Day", name := "gainedByAll", desc := "()I" } : Jvm.MethodName) prog_3_method_19_code (3 : Nat) (Option.some Jvm.ClassFile.FieldType.int)) ∈ mm_G := mm_gi_4 (i := 37) rfl rfl
theorem gw_211 : (Jvm.Cond.code ({ cls := "PennyMore$Day", name := "toEnd", desc := "()V" } : Jvm.MethodName) prog_3_method_18_code (2 : Nat) (Option.none : Option Jvm.ClassFile.FieldType)) ∈ mm_G := mm_gi_4 (i := 17) rfl rfl
theorem gw_212 : (Jvm.Cond.code ({ cls := "PennyMore$Day", name := "carryOut", desc := "(I)V" } : Jvm.MethodName) prog_3_method_17_code (3 : Nat) (Option.none : Option Jvm.ClassFile.FieldType)) ∈ mm_G := mm_gi_4 (i := 4) rfl rfl
theorem gw_213 : (Jvm.Cond.code ({ cls := "PennyMore$Day", name := "turn", desc := "()I" } : Jvm.MethodName) prog_3_method_16_code (3 : Nat) (Option.some Jvm.ClassFile.FieldType.int)) ∈ mm_G := mm_gi_3 (i := 238) rfl rfl
theorem gw_214 : (Jvm.Cond.code ({ cls := "PennyMore$Day", name := "turnComes", desc := "()Z" } : Jvm.MethodName) prog_3_method_15_code (1 : Nat) (Option.some Jvm.ClassFile.FieldType.boolean)) ∈ mm_G := mm_gi_3 (i := 234) rfl rfl
theorem gw_215 : (Jvm.Cond.code ({ cls := "PennyMore$Day", name := "weigh", desc := "(I)V" } : Jvm.MethodName) prog_3_method_14_code (2 : Nat) (Option.none : Option Jvm.ClassFile.FieldType)) ∈ mm_G := mm_gi_2 (i := 161) rfl rfl
theorem gw_216 : (Jvm.Cond.code ({ cls := "PennyMore$Day", name := "gainOfYes", desc := "()I" } : Jvm.MethodName) prog_3_method_13_code (1 : Nat) (Option.some Jvm.ClassFile.FieldType.int)) ∈ mm_G := mm_gi_3 (i := 214) rfl rfl
theorem gw_217 : (Jvm.Cond.code ({ cls := "PennyMore$Day", name := "friendStands", desc := "(I)Z" } : Jvm.MethodName) prog_3_method_12_code (2 : Nat) (Option.some Jvm.ClassFile.FieldType.boolean)) ∈ mm_G := mm_gi_2 (i := 165) rfl rfl
theorem gw_218 : (Jvm.Cond.code ({ cls := "PennyMore$Day", name := "mayGoAway", desc := "(I)Z" } : Jvm.MethodName) prog_3_method_11_code (2 : Nat) (Option.some Jvm.ClassFile.FieldType.boolean)) ∈ mm_G := mm_gi_3 (i := 202) rfl rfl
theorem gw_219 : (Jvm.Cond.code ({ cls := "PennyMore$Day", name := "putAhead", desc := "(I)V" } : Jvm.MethodName) prog_3_method_10_code (3 : Nat) (Option.none : Option Jvm.ClassFile.FieldType)) ∈ mm_G := mm_gi_3 (i := 182) rfl rfl
theorem gw_220 : (Jvm.Cond.code ({ cls := "PennyMore$Day", name := "leave", desc := "(I)V" } : Jvm.MethodName) prog_3_method_9_code (3 : Nat) (Option.none : Option Jvm.ClassFile.FieldType)) ∈ mm_G := mm_gi_3 (i := 186) rfl rfl
theorem gw_221 : (Jvm.Cond.code ({ cls := "PennyMore$Day", name := "stand", desc := "(I)V" } : Jvm.MethodName) prog_3_method_8_code (2 : Nat) (Option.none : Option Jvm.ClassFile.FieldType)) ∈ mm_G := mm_gi_2 (i := 142) rfl rfl
theorem gw_222 : (Jvm.Cond.code ({ cls := "PennyMore$Day", name := "placeOf", desc := "(I)I" } : Jvm.MethodName) prog_3_method_7_code (3 : Nat) (Option.some Jvm.ClassFile.FieldType.int)) ∈ mm_G := mm_gi_2 (i := 157) rfl rfl
theorem gw_223 : (Jvm.Cond.code ({ cls := "PennyMore$Day", name := "head", desc := "()I" } : Jvm.MethodName) prog_3_method_6_code (1 : Nat) (Option.some Jvm.ClassFile.FieldType.int)) ∈ mm_G := mm_gi_3 (i := 167) rfl rfl
theorem gw_224 : (Jvm.Cond.code ({ cls := "PennyMore$Day", name := "open", desc := "(LPennyMore$Shop;)V" } : Jvm.MethodName) prog_3_method_5_code (2 : Nat) (Option.none : Option Jvm.ClassFile.FieldType)) ∈ mm_G := mm_gi_3 (i := 158) rfl rfl
theorem gw_225 : (Jvm.Cond.code ({ cls := "PennyMore$Day", name := "welcome", desc := "(LPennyMore$Buyer;)V" } : Jvm.MethodName) prog_3_method_4_code (4 : Nat) (Option.none : Option Jvm.ClassFile.FieldType)) ∈ mm_G := mm_gi_2 (i := 138) rfl rfl
theorem gw_226 : (Jvm.Cond.code ({ cls := "PennyMore$Day", name := "knows", desc := "(I)Z" } : Jvm.MethodName) prog_3_method_3_code (2 : Nat) (Option.some Jvm.ClassFile.FieldType.boolean)) ∈ mm_G := mm_gi_2 (i := 150) rfl rfl
theorem gw_227 : (Jvm.Cond.code ({ cls := "PennyMore$Day", name := "copyOf", desc := "(LPennyMore$Day;)V" } : Jvm.MethodName) prog_3_method_2_code (3 : Nat) (Option.none : Option Jvm.ClassFile.FieldType)) ∈ mm_G := mm_gi_3 (i := 175) rfl rfl
theorem gw_228 : (Jvm.Cond.code ({ cls := "PennyMore$Day", name := "<init>", desc := "(LPennyMore$Shop;)V" } : Jvm.MethodName) prog_3_method_1_code (2 : Nat) (Option.none : Option Jvm.ClassFile.FieldType)) ∈ mm_G := mm_gi_1 (i := 87) rfl rfl
theorem gw_229 : (Jvm.Cond.code ({ cls := "PennyMore$Buyer", name := "tells", desc := "(I[I)I" } : Jvm.MethodName) prog_2_method_6_code (3 : Nat) (Option.some Jvm.ClassFile.FieldType.int)) ∈ mm_G := mm_gi_4 (i := 231) rfl rfl
theorem gw_230 : (Jvm.Cond.code ({ cls := "PennyMore$Buyer", name := "waits", desc := "(I[I)I" } : Jvm.MethodName) prog_2_method_5_code (3 : Nat) (Option.some Jvm.ClassFile.FieldType.int)) ∈ mm_G := mm_gi_4 (i := 204) rfl rfl
theorem gw_231 : (Jvm.Cond.code ({ cls := "PennyMore$Buyer", name := "bids", desc := "(I[I)I" } : Jvm.MethodName) prog_2_method_4_code (3 : Nat) (Option.some Jvm.ClassFile.FieldType.int)) ∈ mm_G := mm_gi_4 (i := 179) rfl rfl
theorem gw_232 : (Jvm.Cond.code ({ cls := "PennyMore$Buyer", name := "does", desc := "(LPennyMore$Day;)I" } : Jvm.MethodName) prog_2_method_3_code (2 : Nat) (Option.some Jvm.ClassFile.FieldType.int)) ∈ mm_G := mm_gi_3 (i := 225) rfl rfl
theorem gw_233 : (Jvm.Cond.code ({ cls := "PennyMore$Buyer", name := "note", desc := "([II)V" } : Jvm.MethodName) prog_2_method_2_code (2 : Nat) (Option.none : Option Jvm.ClassFile.FieldType)) ∈ mm_G := mm_gi_4 (i := 160) rfl rfl
theorem gw_234 : (Jvm.Cond.code ({ cls := "PennyMore$Buyer", name := "<init>", desc := "(IIII)V" } : Jvm.MethodName) prog_2_method_1_code (5 : Nat) (Option.none : Option Jvm.ClassFile.FieldType)) ∈ mm_G := mm_gi_2 (i := 34) rfl rfl
theorem gw_235 : (Jvm.Cond.code ({ cls := "PennyMore", name := "set", desc := "(II)I" } : Jvm.MethodName) prog_1_method_8_code (4 : Nat) (Option.some Jvm.ClassFile.FieldType.int)) ∈ mm_G := mm_gi_2 (i := 203) rfl rfl
theorem gw_236 : (Jvm.Cond.code ({ cls := "PennyMore", name := "back", desc := "(I)I" } : Jvm.MethodName) prog_1_method_7_code (2 : Nat) (Option.some Jvm.ClassFile.FieldType.int)) ∈ mm_G := mm_gi_2 (i := 198) rfl rfl
theorem gw_237 : (Jvm.Cond.code ({ cls := "PennyMore", name := "row", desc := "(III)I" } : Jvm.MethodName) prog_1_method_6_code (6 : Nat) (Option.some Jvm.ClassFile.FieldType.int)) ∈ mm_G := mm_gi_2 (i := 194) rfl rfl
theorem gw_238 : (Jvm.Cond.code ({ cls := "PennyMore", name := "friend", desc := "(II)I" } : Jvm.MethodName) prog_1_method_5_code (5 : Nat) (Option.some Jvm.ClassFile.FieldType.int)) ∈ mm_G := mm_gi_2 (i := 190) rfl rfl
theorem gw_239 : (Jvm.Cond.code ({ cls := "PennyMore", name := "gained", desc := "(I)I" } : Jvm.MethodName) prog_1_method_4_code (2 : Nat) (Option.some Jvm.ClassFile.FieldType.int)) ∈ mm_G := mm_gi_2 (i := 185) rfl rfl
theorem gw_240 : (Jvm.Cond.code ({ cls := "PennyMore", name := "of", desc := "(II)I" } : Jvm.MethodName) prog_1_method_3_code (4 : Nat) (Option.some Jvm.ClassFile.FieldType.int)) ∈ mm_G := mm_gi_2 (i := 146) rfl rfl
theorem gw_241 : (Jvm.Cond.code ({ cls := "PennyMore", name := "buyer", desc := "(III)I" } : Jvm.MethodName) prog_1_method_2_code (5 : Nat) (Option.some Jvm.ClassFile.FieldType.int)) ∈ mm_G := mm_gi_2 (i := 23) rfl rfl
theorem gw_242 : (Jvm.Cond.code ({ cls := "PennyMore", name := "<init>", desc := "()V" } : Jvm.MethodName) prog_1_method_1_code (3 : Nat) (Option.none : Option Jvm.ClassFile.FieldType)) ∈ mm_G := mm_gi_1 (i := 25) rfl rfl
theorem gw_243 : (Jvm.Cond.code ({ cls := "PennyMore$Waiting", name := "bids", desc := "(I[I)I" } : Jvm.MethodName) prog_12_method_3_code (3 : Nat) (Option.some Jvm.ClassFile.FieldType.int)) ∈ mm_G := mm_gi_4 (i := 156) rfl rfl
theorem gw_244 : (Jvm.Cond.code ({ cls := "PennyMore$Waiting", name := "does", desc := "(LPennyMore$Day;)I" } : Jvm.MethodName) prog_12_method_2_code (2 : Nat) (Option.some Jvm.ClassFile.FieldType.int)) ∈ mm_G := mm_gi_3 (i := 205) rfl rfl
theorem gw_245 : (Jvm.Cond.code ({ cls := "PennyMore$Waiting", name := "<init>", desc := "(IIII)V" } : Jvm.MethodName) prog_12_method_1_code (5 : Nat) (Option.none : Option Jvm.ClassFile.FieldType)) ∈ mm_G := mm_gi_2 (i := 76) rfl rfl
theorem gw_246 : (Jvm.Cond.code ({ cls := "PennyMore$Told", name := "bids", desc := "(I[I)I" } : Jvm.MethodName) prog_11_method_4_code (3 : Nat) (Option.some Jvm.ClassFile.FieldType.int)) ∈ mm_G := mm_gi_4 (i := 173) rfl rfl
theorem gw_247 : (Jvm.Cond.code ({ cls := "PennyMore$Told", name := "waits", desc := "(I[I)I" } : Jvm.MethodName) prog_11_method_3_code (3 : Nat) (Option.some Jvm.ClassFile.FieldType.int)) ∈ mm_G := mm_gi_4 (i := 199) rfl rfl
theorem gw_248 : (Jvm.Cond.code ({ cls := "PennyMore$Told", name := "does", desc := "(LPennyMore$Day;)I" } : Jvm.MethodName) prog_11_method_2_code (4 : Nat) (Option.some Jvm.ClassFile.FieldType.int)) ∈ mm_G := mm_gi_3 (i := 221) rfl rfl
theorem gw_249 : (Jvm.Cond.code ({ cls := "PennyMore$Told", name := "<init>", desc := "(IIII)V" } : Jvm.MethodName) prog_11_method_1_code (5 : Nat) (Option.none : Option Jvm.ClassFile.FieldType)) ∈ mm_G := mm_gi_2 (i := 120) rfl rfl
theorem gw_250 : (Jvm.Cond.code ({ cls := "PennyMore$Tape", name := "narrowed", desc := "(J)J" } : Jvm.MethodName) prog_10_method_6_code (3 : Nat) (Option.some Jvm.ClassFile.FieldType.long)) ∈ mm_G := mm_gi_5 (i := 27) rfl rfl
theorem gw_251 : (Jvm.Cond.code ({ cls := "PennyMore$Tape", name := "hasStretch", desc := "(II)Z" } : Jvm.MethodName) prog_10_method_5_code (3 : Nat) (Option.some Jvm.ClassFile.FieldType.boolean)) ∈ mm_G := mm_gi_5 (i := 39) rfl rfl
theorem gw_252 : (Jvm.Cond.code ({ cls := "PennyMore$Tape", name := "hasPlace", desc := "(I)Z" } : Jvm.MethodName) prog_10_method_4_code (2 : Nat) (Option.some Jvm.ClassFile.FieldType.boolean)) ∈ mm_G := mm_gi_5 (i := 23) rfl rfl
theorem gw_253 : (Jvm.Cond.code ({ cls := "PennyMore$Tape", name := "holdsNothing", desc := "()Z" } : Jvm.MethodName) prog_10_method_3_code (1 : Nat) (Option.some Jvm.ClassFile.FieldType.boolean)) ∈ mm_G := mm_gi_4 (i := 136) rfl rfl
theorem gw_254 : (Jvm.Cond.code ({ cls := "PennyMore$Tape", name := "become", desc := "(II)V" } : Jvm.MethodName) prog_10_method_2_code (4 : Nat) (Option.none : Option Jvm.ClassFile.FieldType)) ∈ mm_G := mm_gi_5 (i := 15) rfl rfl
theorem gw_255 : (Jvm.Cond.code ({ cls := "PennyMore$Tape", name := "<init>", desc := "()V" } : Jvm.MethodName) prog_10_method_1_code (1 : Nat) (Option.none : Option Jvm.ClassFile.FieldType)) ∈ mm_G := mm_gi_1 (i := 204) rfl rfl
theorem gw_256 : (Jvm.Cond.code ({ cls := "PennyMore$Sure", name := "waits", desc := "(I[I)I" } : Jvm.MethodName) prog_9_method_4_code (3 : Nat) (Option.some Jvm.ClassFile.FieldType.int)) ∈ mm_G := mm_gi_4 (i := 195) rfl rfl
theorem gw_257 : (Jvm.Cond.code ({ cls := "PennyMore$Sure", name := "bids", desc := "(I[I)I" } : Jvm.MethodName) prog_9_method_3_code (3 : Nat) (Option.some Jvm.ClassFile.FieldType.int)) ∈ mm_G := mm_gi_4 (i := 165) rfl rfl
theorem gw_258 : (Jvm.Cond.code ({ cls := "PennyMore$Sure", name := "does", desc := "(LPennyMore$Day;)I" } : Jvm.MethodName) prog_9_method_2_code (2 : Nat) (Option.some Jvm.ClassFile.FieldType.int)) ∈ mm_G := mm_gi_3 (i := 217) rfl rfl
theorem gw_259 : (Jvm.Cond.code ({ cls := "PennyMore$Sure", name := "<init>", desc := "(IIII)V" } : Jvm.MethodName) prog_9_method_1_code (5 : Nat) (Option.none : Option Jvm.ClassFile.FieldType)) ∈ mm_G := mm_gi_2 (i := 98) rfl rfl
theorem gw_260 : (Jvm.Cond.code ({ cls := "PennyMore$Shop", name := "passes", desc := "(I[I)Z" } : Jvm.MethodName) prog_8_method_8_code (5 : Nat) (Option.some Jvm.ClassFile.FieldType.boolean)) ∈ mm_G := mm_gi_2 (i := 177) rfl rfl
theorem gw_261 : (Jvm.Cond.code ({ cls := "PennyMore$Shop", name := "holds", desc := "(II[I)Z" } : Jvm.MethodName) prog_8_method_7_code (6 : Nat) (Option.some Jvm.ClassFile.FieldType.boolean)) ∈ mm_G := mm_gi_2 (i := 174) rfl rfl
theorem gw_262 : (Jvm.Cond.code ({ cls := "PennyMore$Shop", name := "sumOf", desc := "(I[I)I" } : Jvm.MethodName) prog_8_method_6_code (6 : Nat) (Option.some Jvm.ClassFile.FieldType.int)) ∈ mm_G := mm_gi_2 (i := 170) rfl rfl
theorem gw_263 : (Jvm.Cond.code ({ cls := "PennyMore$Shop", name := "putClause", desc := "(II)V" } : Jvm.MethodName) prog_8_method_5_code (3 : Nat) (Option.none : Option Jvm.ClassFile.FieldType)) ∈ mm_G := mm_gi_3 (i := 148) rfl rfl
theorem gw_264 : (Jvm.Cond.code ({ cls := "PennyMore$Shop", name := "codeOf", desc := "(III)I" } : Jvm.MethodName) prog_8_method_4_code (3 : Nat) (Option.some Jvm.ClassFile.FieldType.int)) ∈ mm_G := mm_gi_3 (i := 139) rfl rfl
theorem gw_265 : (Jvm.Cond.code ({ cls := "PennyMore$Shop", name := "putCode", desc := "(I)V" } : Jvm.MethodName) prog_8_method_3_code (2 : Nat) (Option.none : Option Jvm.ClassFile.FieldType)) ∈ mm_G := mm_gi_3 (i := 143) rfl rfl
theorem gw_266 : (Jvm.Cond.code ({ cls := "PennyMore$Shop", name := "clear", desc := "()V" } : Jvm.MethodName) prog_8_method_2_code (1 : Nat) (Option.none : Option Jvm.ClassFile.FieldType)) ∈ mm_G := mm_gi_1 (i := 38) rfl rfl
theorem gw_267 : (Jvm.Cond.code ({ cls := "PennyMore$Shop", name := "<init>", desc := "()V" } : Jvm.MethodName) prog_8_method_1_code (1 : Nat) (Option.none : Option Jvm.ClassFile.FieldType)) ∈ mm_G := mm_gi_1 (i := 33) rfl rfl
theorem gw_268 : (Jvm.Cond.code ({ cls := "PennyMore$Reader", name := "number", desc := "()I" } : Jvm.MethodName) prog_7_method_13_code (3 : Nat) (Option.some Jvm.ClassFile.FieldType.int)) ∈ mm_G := mm_gi_3 (i := 58) rfl rfl
theorem gw_269 : (Jvm.Cond.code ({ cls := "PennyMore$Reader", name := "test", desc := "()Z" } : Jvm.MethodName) prog_7_method_12_code (4 : Nat) (Option.some Jvm.ClassFile.FieldType.boolean)) ∈ mm_G := mm_gi_3 (i := 75) rfl rfl
theorem gw_270 : (Jvm.Cond.code ({ cls := "PennyMore$Reader", name := "factor", desc := "(I)Z" } : Jvm.MethodName) prog_7_method_11_code (3 : Nat) (Option.some Jvm.ClassFile.FieldType.boolean)) ∈ mm_G := mm_gi_3 (i := 71) rfl rfl
theorem gw_271 : (Jvm.Cond.code ({ cls := "PennyMore$Reader", name := "both", desc := "(I)Z" } : Jvm.MethodName) prog_7_method_10_code (2 : Nat) (Option.some Jvm.ClassFile.FieldType.boolean)) ∈ mm_G := mm_gi_3 (i := 67) rfl rfl
theorem gw_272 : (Jvm.Cond.code ({ cls := "PennyMore$Reader", name := "either", desc := "(I)Z" } : Jvm.MethodName) prog_7_method_9_code (2 : Nat) (Option.some Jvm.ClassFile.FieldType.boolean)) ∈ mm_G := mm_gi_3 (i := 63) rfl rfl
theorem gw_273 : (Jvm.Cond.code ({ cls := "PennyMore$Reader", name := "clause", desc := "()Z" } : Jvm.MethodName) prog_7_method_8_code (4 : Nat) (Option.some Jvm.ClassFile.FieldType.boolean)) ∈ mm_G := mm_gi_2 (i := 224) rfl rfl
theorem gw_274 : (Jvm.Cond.code ({ cls := "PennyMore$Reader", name := "wordOf", desc := "(I)Ljava/lang/String;" } : Jvm.MethodName) prog_7_method_7_code (1 : Nat) (Option.some (Jvm.ClassFile.FieldType.object "java/lang/String"))) ∈ mm_G := mm_gi_2 (i := 231) rfl rfl
theorem gw_275 : (Jvm.Cond.code ({ cls := "PennyMore", name := "findBestLineup", desc := "(I)I" } : Jvm.MethodName) prog_1_method_48_code (6 : Nat) (Option.some Jvm.ClassFile.FieldType.int)) ∈ mm_G := mm_gi_4 (i := 45) rfl rfl
theorem gw_276 : (Jvm.Cond.code ({ cls := "PennyMore", name := "takersAt", desc := "(I)I" } : Jvm.MethodName) prog_1_method_47_code (4 : Nat) (Option.some Jvm.ClassFile.FieldType.int)) ∈ mm_G := mm_gi_4 (i := 94) rfl rfl
theorem gw_277 : (Jvm.Cond.code ({ cls := "PennyMore", name := "bothLikeSwap", desc := "(I)Z" } : Jvm.MethodName) prog_1_method_46_code (6 : Nat) (Option.some Jvm.ClassFile.FieldType.boolean)) ∈ mm_G := mm_gi_4 (i := 70) rfl rfl
theorem gw_278 : (Jvm.Cond.code ({ cls := "PennyMore", name := "gainByFirst", desc := "(III)I" } : Jvm.MethodName) prog_1_method_45_code (4 : Nat) (Option.some Jvm.ClassFile.FieldType.int)) ∈ mm_G := mm_gi_4 (i := 32) rfl rfl
theorem gw_279 : (Jvm.Cond.code ({ cls := "PennyMore", name := "nobodyRefuses", desc := "(I)Z" } : Jvm.MethodName) prog_1_method_44_code (3 : Nat) (Option.some Jvm.ClassFile.FieldType.boolean)) ∈ mm_G := mm_gi_4 (i := 86) rfl rfl
theorem gw_280 : (Jvm.Cond.code ({ cls := "PennyMore", name := "whoGetsLoaves", desc := "()I" } : Jvm.MethodName) prog_1_method_43_code (4 : Nat) (Option.some Jvm.ClassFile.FieldType.int)) ∈ mm_G := mm_gi_4 (i := 23) rfl rfl
theorem gw_281 : (Jvm.Cond.code ({ cls := "PennyMore", name := "runTrial", desc := "()V" } : Jvm.MethodName) prog_1_method_42_code (1 : Nat) (Option.none : Option Jvm.ClassFile.FieldType)) ∈ mm_G := mm_gi_4 (i := 13) rfl rfl
theorem gw_282 : (Jvm.Cond.code ({ cls := "PennyMore", name := "isOneOf", desc := "(LPennyMore$Buyer;I)Z" } : Jvm.MethodName) prog_1_method_41_code (2 : Nat) (Option.some Jvm.ClassFile.FieldType.boolean)) ∈ mm_G := mm_gi_5 (i := 3) rfl rfl
theorem gw_283 : (Jvm.Cond.code ({ cls := "PennyMore", name := "newBuyer", desc := "(IIII)LPennyMore$Buyer;" } : Jvm.MethodName) prog_1_method_40_code (4 : Nat) (Option.some (Jvm.ClassFile.FieldType.object "PennyMore$Buyer"))) ∈ mm_G := mm_gi_2 (i := 26) rfl rfl
theorem gw_284 : (Jvm.Cond.code ({ cls := "PennyMore", name := "rowDigits", desc := "(I)I" } : Jvm.MethodName) prog_1_method_39_code (3 : Nat) (Option.some Jvm.ClassFile.FieldType.int)) ∈ mm_G := mm_gi_2 (i := 181) rfl rfl
theorem gw_285 : (Jvm.Cond.code ({ cls := "PennyMore", name := "isTape", desc := "(I)Z" } : Jvm.MethodName) prog_1_method_38_code (1 : Nat) (Option.some Jvm.ClassFile.FieldType.boolean)) ∈ mm_G := mm_gi_4 (i := 132) rfl rfl
theorem gw_286 : (Jvm.Cond.code ({ cls := "PennyMore", name := "orAbsent", desc := "(I)I" } : Jvm.MethodName) prog_1_method_37_code (1 : Nat) (Option.some Jvm.ClassFile.FieldType.int)) ∈ mm_G := mm_gi_2 (i := 153) rfl rfl
theorem gw_287 : (Jvm.Cond.code ({ cls := "PennyMore", name := "shift", desc := "(IIIII)I" } : Jvm.MethodName) prog_1_method_36_code (8 : Nat) (Option.some Jvm.ClassFile.FieldType.int)) ∈ mm_G := mm_gi_5 (i := 35) rfl rfl
theorem gw_288 : (Jvm.Cond.code ({ cls := "PennyMore", name := "read", desc := "(II)J" } : Jvm.MethodName) prog_1_method_35_code (3 : Nat) (Option.some Jvm.ClassFile.FieldType.long)) ∈ mm_G := mm_gi_5 (i := 31) rfl rfl
theorem gw_289 : (Jvm.Cond.code ({ cls := "PennyMore", name := "item", desc := "(IIJ)I" } : Jvm.MethodName) prog_1_method_34_code (6 : Nat) (Option.some Jvm.ClassFile.FieldType.int)) ∈ mm_G := mm_gi_5 (i := 19) rfl rfl
theorem gw_290 : (Jvm.Cond.code ({ cls := "PennyMore", name := "tape", desc := "(III)I" } : Jvm.MethodName) prog_1_method_33_code (4 : Nat) (Option.some Jvm.ClassFile.FieldType.int)) ∈ mm_G := mm_gi_5 (i := 11) rfl rfl
theorem gw_291 : (Jvm.Cond.code ({ cls := "PennyMore", name := "count", desc := "(I)I" } : Jvm.MethodName) prog_1_method_32_code (2 : Nat) (Option.some Jvm.ClassFile.FieldType.int)) ∈ mm_G := mm_gi_5 (i := 7) rfl rfl
theorem gw_292 : (Jvm.Cond.code ({ cls := "PennyMore", name := "taken", desc := "(II)I" } : Jvm.MethodName) prog_1_method_31_code (4 : Nat) (Option.some Jvm.ClassFile.FieldType.int)) ∈ mm_G := mm_gi_5 (i := 0) rfl rfl
theorem gw_293 : (Jvm.Cond.code ({ cls := "PennyMore", name := "trace", desc := "(I)I" } : Jvm.MethodName) prog_1_method_30_code (2 : Nat) (Option.some Jvm.ClassFile.FieldType.int)) ∈ mm_G := mm_gi_4 (i := 236) rfl rfl
theorem gw_294 : (Jvm.Cond.code ({ cls := "PennyMore", name := "act", desc := "(III)I" } : Jvm.MethodName) prog_1_method_29_code (4 : Nat) (Option.some Jvm.ClassFile.FieldType.int)) ∈ mm_G := mm_gi_4 (i := 148) rfl rfl
theorem gw_295 : (Jvm.Cond.code ({ cls := "PennyMore", name := "undo", desc := "()I" } : Jvm.MethodName) prog_1_method_28_code (1 : Nat) (Option.some Jvm.ClassFile.FieldType.int)) ∈ mm_G := mm_gi_4 (i := 144) rfl rfl
theorem gw_296 : (Jvm.Cond.code ({ cls := "PennyMore", name := "image", desc := "()I" } : Jvm.MethodName) prog_1_method_27_code (1 : Nat) (Option.some Jvm.ClassFile.FieldType.int)) ∈ mm_G := mm_gi_4 (i := 140) rfl rfl
theorem gw_297 : (Jvm.Cond.code ({ cls := "PennyMore", name := "judge", desc := "(II)I" } : Jvm.MethodName) prog_1_method_26_code (5 : Nat) (Option.some Jvm.ClassFile.FieldType.int)) ∈ mm_G := mm_gi_4 (i := 129) rfl rfl
theorem gw_298 : (Jvm.Cond.code ({ cls := "PennyMore", name := "off", desc := "()I" } : Jvm.MethodName) prog_1_method_25_code (2 : Nat) (Option.some Jvm.ClassFile.FieldType.int)) ∈ mm_G := mm_gi_4 (i := 125) rfl rfl
theorem gw_299 : (Jvm.Cond.code ({ cls := "PennyMore", name := "film", desc := "(I)I" } : Jvm.MethodName) prog_1_method_24_code (2 : Nat) (Option.some Jvm.ClassFile.FieldType.int)) ∈ mm_G := mm_gi_4 (i := 121) rfl rfl
theorem gw_300 : (Jvm.Cond.code ({ cls := "PennyMore", name := "sure", desc := "(II)J" } : Jvm.MethodName) prog_1_method_23_code (12 : Nat) (Option.some Jvm.ClassFile.FieldType.long)) ∈ mm_G := mm_gi_4 (i := 109) rfl rfl
theorem gw_301 : (Jvm.Cond.code ({ cls := "PennyMore", name := "slips", desc := "(I)I" } : Jvm.MethodName) prog_1_method_22_code (3 : Nat) (Option.some Jvm.ClassFile.FieldType.int)) ∈ mm_G := mm_gi_4 (i := 105) rfl rfl
theorem gw_302 : (Jvm.Cond.code ({ cls := "PennyMore", name := "aunt", desc := "(I)I" } : Jvm.MethodName) prog_1_method_21_code (6 : Nat) (Option.some Jvm.ClassFile.FieldType.int)) ∈ mm_G := mm_gi_4 (i := 99) rfl rfl
theorem gw_303 : (Jvm.Cond.code ({ cls := "PennyMore", name := "onePrice", desc := "(I)I" } : Jvm.MethodName) prog_1_method_20_code (6 : Nat) (Option.some Jvm.ClassFile.FieldType.int)) ∈ mm_G := mm_gi_4 (i := 90) rfl rfl
theorem gw_304 : (Jvm.Cond.code ({ cls := "PennyMore", name := "fee", desc := "()I" } : Jvm.MethodName) prog_1_method_19_code (2 : Nat) (Option.some Jvm.ClassFile.FieldType.int)) ∈ mm_G := mm_gi_4 (i := 82) rfl rfl
theorem gw_305 : (Jvm.Cond.code ({ cls := "PennyMore", name := "lot", desc := "(I)J" } : Jvm.MethodName) prog_1_method_18_code (8 : Nat) (Option.some Jvm.ClassFile.FieldType.long)) ∈ mm_G := mm_gi_4 (i := 74) rfl rfl
theorem gw_306 : (Jvm.Cond.code ({ cls := "PennyMore", name := "letBy", desc := "(I)I" } : Jvm.MethodName) prog_1_method_17_code (5 : Nat) (Option.some Jvm.ClassFile.FieldType.int)) ∈ mm_G := mm_gi_4 (i := 66) rfl rfl
theorem gw_307 : (Jvm.Cond.code ({ cls := "PennyMore", name := "order", desc := "(II)I" } : Jvm.MethodName) prog_1_method_16_code (4 : Nat) (Option.some Jvm.ClassFile.FieldType.int)) ∈ mm_G := mm_gi_4 (i := 41) rfl rfl
theorem gw_308 : (Jvm.Cond.code ({ cls := "PennyMore", name := "first", desc := "(I)I" } : Jvm.MethodName) prog_1_method_15_code (7 : Nat) (Option.some Jvm.ClassFile.FieldType.int)) ∈ mm_G := mm_gi_4 (i := 27) rfl rfl
theorem gw_309 : (Jvm.Cond.code ({ cls := "PennyMore", name := "run", desc := "(I)I" } : Jvm.MethodName) prog_1_method_14_code (2 : Nat) (Option.some Jvm.ClassFile.FieldType.int)) ∈ mm_G := mm_gi_4 (i := 9) rfl rfl
theorem gw_310 : (Jvm.Cond.code ({ cls := "PennyMore", name := "go", desc := "()I" } : Jvm.MethodName) prog_1_method_13_code (1 : Nat) (Option.some Jvm.ClassFile.FieldType.int)) ∈ mm_G := mm_gi_3 (i := 230) rfl rfl
theorem gw_311 : (Jvm.Cond.code ({ cls := "PennyMore", name := "would", desc := "(I)I" } : Jvm.MethodName) prog_1_method_12_code (2 : Nat) (Option.some Jvm.ClassFile.FieldType.int)) ∈ mm_G := mm_gi_3 (i := 171) rfl rfl
theorem gw_312 : (Jvm.Cond.code ({ cls := "PennyMore", name := "told", desc := "(I)I" } : Jvm.MethodName) prog_1_method_11_code (2 : Nat) (Option.some Jvm.ClassFile.FieldType.int)) ∈ mm_G := mm_gi_3 (i := 163) rfl rfl
theorem gw_313 : (Jvm.Cond.code ({ cls := "PennyMore", name := "shop", desc := "()I" } : Jvm.MethodName) prog_1_method_10_code (4 : Nat) (Option.some Jvm.ClassFile.FieldType.int)) ∈ mm_G := mm_gi_2 (i := 215) rfl rfl
theorem gw_314 : (Jvm.Cond.code ({ cls := "PennyMore", name := "feed", desc := "(I)I" } : Jvm.MethodName) prog_1_method_9_code (2 : Nat) (Option.some Jvm.ClassFile.FieldType.int)) ∈ mm_G := mm_gi_2 (i := 207) rfl rfl
theorem gw_315 : (Jvm.Cond.code ({ cls := "PennyMoreModel", name := "told", desc := "(I)I" } : Jvm.MethodName) prog_14_method_34_code (2 : Nat) (Option.some Jvm.ClassFile.FieldType.int)) ∈ mm_G := mm_gi_6 (i := 158) rfl rfl
theorem gw_316 : (Jvm.Cond.code ({ cls := "PennyMoreModel", name := "lawOf", desc := "(I)I" } : Jvm.MethodName) prog_14_method_33_code (4 : Nat) (Option.some Jvm.ClassFile.FieldType.int)) ∈ mm_G := mm_gi_6 (i := 162) rfl rfl
theorem gw_317 : (Jvm.Cond.code ({ cls := "PennyMoreModel", name := "costOf", desc := "(I)I" } : Jvm.MethodName) prog_14_method_32_code (2 : Nat) (Option.some Jvm.ClassFile.FieldType.int)) ∈ mm_G := mm_gi_6 (i := 74) rfl rfl
theorem gw_318 : (Jvm.Cond.code ({ cls := "PennyMoreModel", name := "valueOf", desc := "(I)I" } : Jvm.MethodName) prog_14_method_31_code (2 : Nat) (Option.some Jvm.ClassFile.FieldType.int)) ∈ mm_G := mm_gi_6 (i := 58) rfl rfl
theorem gw_319 : (Jvm.Cond.code ({ cls := "PennyMoreModel", name := "sumOf", desc := "(II)I" } : Jvm.MethodName) prog_14_method_30_code (5 : Nat) (Option.some Jvm.ClassFile.FieldType.int)) ∈ mm_G := mm_gi_6 (i := 62) rfl rfl
theorem gw_320 : (Jvm.Cond.code ({ cls := "PennyMoreModel", name := "doesHold", desc := "(II)Z" } : Jvm.MethodName) prog_14_method_29_code (8 : Nat) (Option.some Jvm.ClassFile.FieldType.boolean)) ∈ mm_G := mm_gi_6 (i := 66) rfl rfl
theorem gw_321 : (Jvm.Cond.code ({ cls := "PennyMoreModel", name := "testOf", desc := "(II)I" } : Jvm.MethodName) prog_14_method_28_code (3 : Nat) (Option.some Jvm.ClassFile.FieldType.int)) ∈ mm_G := mm_gi_6 (i := 70) rfl rfl
theorem gw_322 : (Jvm.Cond.code ({ cls := "PennyMoreModel", name := "shop", desc := "()I" } : Jvm.MethodName) prog_14_method_27_code (3 : Nat) (Option.some Jvm.ClassFile.FieldType.int)) ∈ mm_G := mm_gi_6 (i := 103) rfl rfl
theorem gw_323 : (Jvm.Cond.code ({ cls := "PennyMoreModel", name := "shopRead", desc := "()I" } : Jvm.MethodName) prog_14_method_26_code (1 : Nat) (Option.some Jvm.ClassFile.FieldType.int)) ∈ mm_G := mm_gi_6 (i := 107) rfl rfl
theorem gw_324 : (Jvm.Cond.code ({ cls := "PennyMoreModel", name := "clauseRead", desc := "()Z" } : Jvm.MethodName) prog_14_method_25_code (4 : Nat) (Option.some Jvm.ClassFile.FieldType.boolean)) ∈ mm_G := mm_gi_6 (i := 111) rfl rfl
theorem gw_325 : (Jvm.Cond.code ({ cls := "PennyMoreModel", name := "eRead", desc := "()Z" } : Jvm.MethodName) prog_14_method_24_code (3 : Nat) (Option.some Jvm.ClassFile.FieldType.boolean)) ∈ mm_G := mm_gi_6 (i := 134) rfl rfl
theorem gw_326 : (Jvm.Cond.code ({ cls := "PennyMoreModel", name := "opens", desc := "(I)Z" } : Jvm.MethodName) prog_14_method_23_code (2 : Nat) (Option.some Jvm.ClassFile.FieldType.boolean)) ∈ mm_G := mm_gi_6 (i := 138) rfl rfl
theorem gw_327 : (Jvm.Cond.code ({ cls := "PennyMoreModel", name := "unwinds", desc := "(I)V" } : Jvm.MethodName) prog_14_method_22_code (2 : Nat) (Option.none : Option Jvm.ClassFile.FieldType)) ∈ mm_G := mm_gi_6 (i := 154) rfl rfl
theorem gw_328 : (Jvm.Cond.code ({ cls := "PennyMoreModel", name := "noMoreNots", desc := "()V" } : Jvm.MethodName) prog_14_method_21_code (1 : Nat) (Option.none : Option Jvm.ClassFile.FieldType)) ∈ mm_G := mm_gi_6 (i := 150) rfl rfl
theorem gw_329 : (Jvm.Cond.code ({ cls := "PennyMoreModel", name := "testRead", desc := "()Z" } : Jvm.MethodName) prog_14_method_20_code (4 : Nat) (Option.some Jvm.ClassFile.FieldType.boolean)) ∈ mm_G := mm_gi_6 (i := 142) rfl rfl
theorem gw_330 : (Jvm.Cond.code ({ cls := "PennyMoreModel", name := "codes", desc := "(I)V" } : Jvm.MethodName) prog_14_method_19_code (2 : Nat) (Option.none : Option Jvm.ClassFile.FieldType)) ∈ mm_G := mm_gi_6 (i := 146) rfl rfl
theorem gw_331 : (Jvm.Cond.code ({ cls := "PennyMoreModel", name := "wordRead", desc := "()I" } : Jvm.MethodName) prog_14_method_18_code (3 : Nat) (Option.some Jvm.ClassFile.FieldType.int)) ∈ mm_G := mm_gi_6 (i := 115) rfl rfl
theorem gw_332 : (Jvm.Cond.code ({ cls := "PennyMoreModel", name := "numberRead", desc := "()I" } : Jvm.MethodName) prog_14_method_17_code (2 : Nat) (Option.some Jvm.ClassFile.FieldType.int)) ∈ mm_G := mm_gi_6 (i := 127) rfl rfl
theorem gw_333 : (Jvm.Cond.code ({ cls := "PennyMoreModel", name := "goesBy", desc := "(I)Z" } : Jvm.MethodName) prog_14_method_16_code (2 : Nat) (Option.some Jvm.ClassFile.FieldType.boolean)) ∈ mm_G := mm_gi_6 (i := 123) rfl rfl
theorem gw_334 : (Jvm.Cond.code ({ cls := "PennyMoreModel", name := "isFigure", desc := "(I)Z" } : Jvm.MethodName) prog_14_method_15_code (1 : Nat) (Option.some Jvm.ClassFile.FieldType.boolean)) ∈ mm_G := mm_gi_6 (i := 130) rfl rfl
theorem gw_335 : (Jvm.Cond.code ({ cls := "PennyMoreModel", name := "sign", desc := "()I" } : Jvm.MethodName) prog_14_method_14_code (1 : Nat) (Option.some Jvm.ClassFile.FieldType.int)) ∈ mm_G := mm_gi_6 (i := 119) rfl rfl
theorem gw_336 : (Jvm.Cond.code ({ cls := "PennyMoreModel", name := "feed", desc := "(I)I" } : Jvm.MethodName) prog_14_method_13_code (2 : Nat) (Option.some Jvm.ClassFile.FieldType.int)) ∈ mm_G := mm_gi_6 (i := 99) rfl rfl
theorem gw_337 : (Jvm.Cond.code ({ cls := "PennyMoreModel", name := "set", desc := "(II)I" } : Jvm.MethodName) prog_14_method_12_code (4 : Nat) (Option.some Jvm.ClassFile.FieldType.int)) ∈ mm_G := mm_gi_6 (i := 95) rfl rfl
theorem gw_338 : (Jvm.Cond.code ({ cls := "PennyMoreModel", name := "back", desc := "(I)I" } : Jvm.MethodName) prog_14_method_11_code (2 : Nat) (Option.some Jvm.ClassFile.FieldType.int)) ∈ mm_G := mm_gi_6 (i := 91) rfl rfl
theorem gw_339 : (Jvm.Cond.code ({ cls := "PennyMoreModel", name := "row", desc := "(III)I" } : Jvm.MethodName) prog_14_method_10_code (5 : Nat) (Option.some Jvm.ClassFile.FieldType.int)) ∈ mm_G := mm_gi_6 (i := 87) rfl rfl
theorem gw_340 : (Jvm.Cond.code ({ cls := "PennyMoreModel", name := "friend", desc := "(II)I" } : Jvm.MethodName) prog_14_method_9_code (4 : Nat) (Option.some Jvm.ClassFile.FieldType.int)) ∈ mm_G := mm_gi_6 (i := 83) rfl rfl
theorem gw_341 : (Jvm.Cond.code ({ cls := "PennyMoreModel", name := "gained", desc := "(I)I" } : Jvm.MethodName) prog_14_method_8_code (2 : Nat) (Option.some Jvm.ClassFile.FieldType.int)) ∈ mm_G := mm_gi_6 (i := 78) rfl rfl
theorem gw_342 : (Jvm.Cond.code ({ cls := "PennyMoreModel", name := "of", desc := "(II)I" } : Jvm.MethodName) prog_14_method_7_code (3 : Nat) (Option.some Jvm.ClassFile.FieldType.int)) ∈ mm_G := mm_gi_6 (i := 46) rfl rfl
theorem gw_343 : (Jvm.Cond.code ({ cls := "PennyMoreModel", name := "buyer", desc := "(III)I" } : Jvm.MethodName) prog_14_method_6_code (5 : Nat) (Option.some Jvm.ClassFile.FieldType.int)) ∈ mm_G := mm_gi_6 (i := 39) rfl rfl
theorem gw_344 : (Jvm.Cond.code ({ cls := "PennyMoreModel", name := "placeOf", desc := "(I)I" } : Jvm.MethodName) prog_14_method_5_code (3 : Nat) (Option.some Jvm.ClassFile.FieldType.int)) ∈ mm_G := mm_gi_6 (i := 54) rfl rfl
theorem gw_345 : (Jvm.Cond.code ({ cls := "PennyMoreModel", name := "isBuyer", desc := "(I)Z" } : Jvm.MethodName) prog_14_method_4_code (2 : Nat) (Option.some Jvm.ClassFile.FieldType.boolean)) ∈ mm_G := mm_gi_6 (i := 50) rfl rfl
theorem gw_346 : (Jvm.Cond.code ({ cls := "PennyMoreModel", name := "in", desc := "(III)Z" } : Jvm.MethodName) prog_14_method_3_code (3 : Nat) (Option.some Jvm.ClassFile.FieldType.boolean)) ∈ mm_G := mm_gi_6 (i := 42) rfl rfl
theorem gw_347 : (Jvm.Cond.code ({ cls := "PennyMoreModel", name := "<init>", desc := "()V" } : Jvm.MethodName) prog_14_method_1_code (1 : Nat) (Option.none : Option Jvm.ClassFile.FieldType)) ∈ mm_G := mm_gi_5 (i := 44) rfl rfl
theorem gw_348 : (Jvm.Cond.code ({ cls := "PennyMore", name := "lowestTerms", desc := "(JJI)J" } : Jvm.MethodName) prog_1_method_55_code (12 : Nat) (Option.some Jvm.ClassFile.FieldType.long)) ∈ mm_G := mm_gi_4 (i := 78) rfl rfl
theorem gw_349 : (Jvm.Cond.code ({ cls := "PennyMore", name := "whoSaysYes", desc := "(I)I" } : Jvm.MethodName) prog_1_method_54_code (7 : Nat) (Option.some Jvm.ClassFile.FieldType.int)) ∈ mm_G := mm_gi_4 (i := 117) rfl rfl
end
section
theorem gw_350 : (Jvm.Cond.code ({ cls := "PennyMore", name := "weightOf", desc := "(I)J" } : Jvm.MethodName) prog_1_method_53_code (5 : Nat) (Option.some Jvm.ClassFile.FieldType.long)) ∈ mm_G := mm_gi_4 (i := 113) rfl rfl
theorem gw_351 : (Jvm.Cond.code ({ cls := "PennyMore", name := "swapInLineup", desc := "(II)V" } : Jvm.MethodName) prog_1_method_52_code (4 : Nat) (Option.none : Option Jvm.ClassFile.FieldType)) ∈ mm_G := mm_gi_4 (i := 62) rfl rfl
theorem gw_352 : (Jvm.Cond.code ({ cls := "PennyMore", name := "nextLineup", desc := "()Z" } : Jvm.MethodName) prog_1_method_51_code (5 : Nat) (Option.some Jvm.ClassFile.FieldType.boolean)) ∈ mm_G := mm_gi_4 (i := 58) rfl rfl
theorem gw_353 : (Jvm.Cond.code ({ cls := "PennyMore", name := "standAsLineup", desc := "()V" } : Jvm.MethodName) prog_1_method_50_code (1 : Nat) (Option.none : Option Jvm.ClassFile.FieldType)) ∈ mm_G := mm_gi_4 (i := 53) rfl rfl
theorem gw_354 : (Jvm.Cond.code ({ cls := "PennyMore", name := "startLineups", desc := "()V" } : Jvm.MethodName) prog_1_method_49_code (3 : Nat) (Option.none : Option Jvm.ClassFile.FieldType)) ∈ mm_G := mm_gi_4 (i := 49) rfl rfl
theorem gw_355 : (Jvm.Cond.code ({ cls := "PennyMoreModel", name := "above", desc := "(I)I" } : Jvm.MethodName) prog_14_method_74_code (1 : Nat) (Option.some Jvm.ClassFile.FieldType.int)) ∈ mm_G := mm_gi_7 (i := 91) rfl rfl
theorem gw_356 : (Jvm.Cond.code ({ cls := "PennyMoreModel", name := "runs", desc := "(I)V" } : Jvm.MethodName) prog_14_method_73_code (2 : Nat) (Option.none : Option Jvm.ClassFile.FieldType)) ∈ mm_G := mm_gi_7 (i := 88) rfl rfl
theorem gw_357 : (Jvm.Cond.code ({ cls := "PennyMoreModel", name := "undo", desc := "()I" } : Jvm.MethodName) prog_14_method_72_code (2 : Nat) (Option.some Jvm.ClassFile.FieldType.int)) ∈ mm_G := mm_gi_7 (i := 76) rfl rfl
theorem gw_358 : (Jvm.Cond.code ({ cls := "PennyMoreModel", name := "image", desc := "()I" } : Jvm.MethodName) prog_14_method_71_code (2 : Nat) (Option.some Jvm.ClassFile.FieldType.int)) ∈ mm_G := mm_gi_7 (i := 72) rfl rfl
theorem gw_359 : (Jvm.Cond.code ({ cls := "PennyMoreModel", name := "judge", desc := "(II)I" } : Jvm.MethodName) prog_14_method_70_code (5 : Nat) (Option.some Jvm.ClassFile.FieldType.int)) ∈ mm_G := mm_gi_7 (i := 64) rfl rfl
theorem gw_360 : (Jvm.Cond.code ({ cls := "PennyMoreModel", name := "isTape", desc := "(I)Z" } : Jvm.MethodName) prog_14_method_69_code (2 : Nat) (Option.some Jvm.ClassFile.FieldType.boolean)) ∈ mm_G := mm_gi_7 (i := 68) rfl rfl
theorem gw_361 : (Jvm.Cond.code ({ cls := "PennyMoreModel", name := "off", desc := "()I" } : Jvm.MethodName) prog_14_method_68_code (4 : Nat) (Option.some Jvm.ClassFile.FieldType.int)) ∈ mm_G := mm_gi_7 (i := 60) rfl rfl
theorem gw_362 : (Jvm.Cond.code ({ cls := "PennyMoreModel", name := "film", desc := "(I)I" } : Jvm.MethodName) prog_14_method_67_code (2 : Nat) (Option.some Jvm.ClassFile.FieldType.int)) ∈ mm_G := mm_gi_7 (i := 56) rfl rfl
theorem gw_363 : (Jvm.Cond.code ({ cls := "PennyMoreModel", name := "sure", desc := "(II)J" } : Jvm.MethodName) prog_14_method_66_code (3 : Nat) (Option.some Jvm.ClassFile.FieldType.long)) ∈ mm_G := mm_gi_7 (i := 38) rfl rfl
theorem gw_364 : (Jvm.Cond.code ({ cls := "PennyMoreModel", name := "slipsOn", desc := "(IIJ)V" } : Jvm.MethodName) prog_14_method_65_code (8 : Nat) (Option.none : Option Jvm.ClassFile.FieldType)) ∈ mm_G := mm_gi_7 (i := 43) rfl rfl
theorem gw_365 : (Jvm.Cond.code ({ cls := "PennyMoreModel", name := "laysAt", desc := "(I)V" } : Jvm.MethodName) prog_14_method_64_code (3 : Nat) (Option.none : Option Jvm.ClassFile.FieldType)) ∈ mm_G := mm_gi_7 (i := 52) rfl rfl
theorem gw_366 : (Jvm.Cond.code ({ cls := "PennyMoreModel", name := "keepsAt", desc := "(I)V" } : Jvm.MethodName) prog_14_method_63_code (3 : Nat) (Option.none : Option Jvm.ClassFile.FieldType)) ∈ mm_G := mm_gi_7 (i := 47) rfl rfl
theorem gw_367 : (Jvm.Cond.code ({ cls := "PennyMoreModel", name := "slips", desc := "(I)I" } : Jvm.MethodName) prog_14_method_62_code (3 : Nat) (Option.some Jvm.ClassFile.FieldType.int)) ∈ mm_G := mm_gi_7 (i := 34) rfl rfl
theorem gw_368 : (Jvm.Cond.code ({ cls := "PennyMoreModel", name := "aunt", desc := "(I)I" } : Jvm.MethodName) prog_14_method_61_code (2 : Nat) (Option.some Jvm.ClassFile.FieldType.int)) ∈ mm_G := mm_gi_7 (i := 25) rfl rfl
theorem gw_369 : (Jvm.Cond.code ({ cls := "PennyMoreModel", name := "othersGain", desc := "(IZ)I" } : Jvm.MethodName) prog_14_method_60_code (5 : Nat) (Option.some Jvm.ClassFile.FieldType.int)) ∈ mm_G := mm_gi_7 (i := 30) rfl rfl
theorem gw_370 : (Jvm.Cond.code ({ cls := "PennyMoreModel", name := "onePrice", desc := "(I)I" } : Jvm.MethodName) prog_14_method_59_code (7 : Nat) (Option.some Jvm.ClassFile.FieldType.int)) ∈ mm_G := mm_gi_7 (i := 21) rfl rfl
theorem gw_371 : (Jvm.Cond.code ({ cls := "PennyMoreModel", name := "fee", desc := "()I" } : Jvm.MethodName) prog_14_method_58_code (3 : Nat) (Option.some Jvm.ClassFile.FieldType.int)) ∈ mm_G := mm_gi_7 (i := 17) rfl rfl
theorem gw_372 : (Jvm.Cond.code ({ cls := "PennyMoreModel", name := "lot", desc := "(I)J" } : Jvm.MethodName) prog_14_method_57_code (5 : Nat) (Option.some Jvm.ClassFile.FieldType.long)) ∈ mm_G := mm_gi_7 (i := 9) rfl rfl
theorem gw_373 : (Jvm.Cond.code ({ cls := "PennyMoreModel", name := "lowest", desc := "(JJI)J" } : Jvm.MethodName) prog_14_method_56_code (11 : Nat) (Option.some Jvm.ClassFile.FieldType.long)) ∈ mm_G := mm_gi_7 (i := 13) rfl rfl
theorem gw_374 : (Jvm.Cond.code ({ cls := "PennyMoreModel", name := "letBy", desc := "(I)I" } : Jvm.MethodName) prog_14_method_55_code (11 : Nat) (Option.some Jvm.ClassFile.FieldType.int)) ∈ mm_G := mm_gi_7 (i := 5) rfl rfl
theorem gw_375 : (Jvm.Cond.code ({ cls := "PennyMoreModel", name := "order", desc := "(II)I" } : Jvm.MethodName) prog_14_method_54_code (7 : Nat) (Option.some Jvm.ClassFile.FieldType.int)) ∈ mm_G := mm_gi_6 (i := 234) rfl rfl
theorem gw_376 : (Jvm.Cond.code ({ cls := "PennyMoreModel", name := "stands", desc := "(I)V" } : Jvm.MethodName) prog_14_method_53_code (8 : Nat) (Option.none : Option Jvm.ClassFile.FieldType)) ∈ mm_G := mm_gi_7 (i := 1) rfl rfl
theorem gw_377 : (Jvm.Cond.code ({ cls := "PennyMoreModel", name := "orders", desc := "(I)I" } : Jvm.MethodName) prog_14_method_52_code (3 : Nat) (Option.some Jvm.ClassFile.FieldType.int)) ∈ mm_G := mm_gi_6 (i := 237) rfl rfl
theorem gw_378 : (Jvm.Cond.code ({ cls := "PennyMoreModel", name := "first", desc := "(I)I" } : Jvm.MethodName) prog_14_method_51_code (7 : Nat) (Option.some Jvm.ClassFile.FieldType.int)) ∈ mm_G := mm_gi_6 (i := 226) rfl rfl
theorem gw_379 : (Jvm.Cond.code ({ cls := "PennyMoreModel", name := "run", desc := "(I)I" } : Jvm.MethodName) prog_14_method_50_code (4 : Nat) (Option.some Jvm.ClassFile.FieldType.int)) ∈ mm_G := mm_gi_6 (i := 210) rfl rfl
theorem gw_380 : (Jvm.Cond.code ({ cls := "PennyMoreModel", name := "allGained", desc := "()I" } : Jvm.MethodName) prog_14_method_49_code (3 : Nat) (Option.some Jvm.ClassFile.FieldType.int)) ∈ mm_G := mm_gi_6 (i := 230) rfl rfl
theorem gw_381 : (Jvm.Cond.code ({ cls := "PennyMoreModel", name := "toTheEnd", desc := "()V" } : Jvm.MethodName) prog_14_method_48_code (1 : Nat) (Option.none : Option Jvm.ClassFile.FieldType)) ∈ mm_G := mm_gi_6 (i := 218) rfl rfl
theorem gw_382 : (Jvm.Cond.code ({ cls := "PennyMoreModel", name := "lays", desc := "()V" } : Jvm.MethodName) prog_14_method_47_code (2 : Nat) (Option.none : Option Jvm.ClassFile.FieldType)) ∈ mm_G := mm_gi_6 (i := 222) rfl rfl
theorem gw_383 : (Jvm.Cond.code ({ cls := "PennyMoreModel", name := "keeps", desc := "()V" } : Jvm.MethodName) prog_14_method_46_code (2 : Nat) (Option.none : Option Jvm.ClassFile.FieldType)) ∈ mm_G := mm_gi_6 (i := 214) rfl rfl
theorem gw_384 : (Jvm.Cond.code ({ cls := "PennyMoreModel", name := "go", desc := "()I" } : Jvm.MethodName) prog_14_method_45_code (2 : Nat) (Option.some Jvm.ClassFile.FieldType.int)) ∈ mm_G := mm_gi_6 (i := 198) rfl rfl
theorem gw_385 : (Jvm.Cond.code ({ cls := "PennyMoreModel", name := "does", desc := "(I)V" } : Jvm.MethodName) prog_14_method_44_code (9 : Nat) (Option.none : Option Jvm.ClassFile.FieldType)) ∈ mm_G := mm_gi_6 (i := 206) rfl rfl
theorem gw_386 : (Jvm.Cond.code ({ cls := "PennyMoreModel", name := "comes", desc := "()Z" } : Jvm.MethodName) prog_14_method_43_code (1 : Nat) (Option.some Jvm.ClassFile.FieldType.boolean)) ∈ mm_G := mm_gi_6 (i := 202) rfl rfl
theorem gw_387 : (Jvm.Cond.code ({ cls := "PennyMoreModel", name := "would", desc := "(I)I" } : Jvm.MethodName) prog_14_method_42_code (2 : Nat) (Option.some Jvm.ClassFile.FieldType.int)) ∈ mm_G := mm_gi_6 (i := 166) rfl rfl
theorem gw_388 : (Jvm.Cond.code ({ cls := "PennyMoreModel", name := "wouldBe", desc := "(I)I" } : Jvm.MethodName) prog_14_method_41_code (4 : Nat) (Option.some Jvm.ClassFile.FieldType.int)) ∈ mm_G := mm_gi_6 (i := 170) rfl rfl
theorem gw_389 : (Jvm.Cond.code ({ cls := "PennyMoreModel", name := "asPlain", desc := "(I)I" } : Jvm.MethodName) prog_14_method_40_code (2 : Nat) (Option.some Jvm.ClassFile.FieldType.int)) ∈ mm_G := mm_gi_6 (i := 174) rfl rfl
theorem gw_390 : (Jvm.Cond.code ({ cls := "PennyMoreModel", name := "asFalling", desc := "(I)I" } : Jvm.MethodName) prog_14_method_39_code (3 : Nat) (Option.some Jvm.ClassFile.FieldType.int)) ∈ mm_G := mm_gi_6 (i := 194) rfl rfl
theorem gw_391 : (Jvm.Cond.code ({ cls := "PennyMoreModel", name := "asWaiting", desc := "(I)I" } : Jvm.MethodName) prog_14_method_38_code (2 : Nat) (Option.some Jvm.ClassFile.FieldType.int)) ∈ mm_G := mm_gi_6 (i := 182) rfl rfl
theorem gw_392 : (Jvm.Cond.code ({ cls := "PennyMoreModel", name := "asBuyer", desc := "(I)I" } : Jvm.MethodName) prog_14_method_37_code (2 : Nat) (Option.some Jvm.ClassFile.FieldType.int)) ∈ mm_G := mm_gi_6 (i := 190) rfl rfl
theorem gw_393 : (Jvm.Cond.code ({ cls := "PennyMoreModel", name := "gainOf", desc := "(I)I" } : Jvm.MethodName) prog_14_method_36_code (2 : Nat) (Option.some Jvm.ClassFile.FieldType.int)) ∈ mm_G := mm_gi_6 (i := 178) rfl rfl
theorem gw_394 : (Jvm.Cond.code ({ cls := "PennyMoreModel", name := "mayAway", desc := "(I)Z" } : Jvm.MethodName) prog_14_method_35_code (2 : Nat) (Option.some Jvm.ClassFile.FieldType.boolean)) ∈ mm_G := mm_gi_6 (i := 186) rfl rfl
theorem gw_395 : (Jvm.Cond.code ({ cls := "jdk/internal/util/Preconditions", name := "checkIndex", desc := "(IILjava/util/function/BiFunction;)I" } : Jvm.MethodName) prog_21_method_11_code (3 : Nat) (Option.some Jvm.ClassFile.FieldType.int)) ∈ mm_G := mm_gi_3 (i := 35) rfl rfl
theorem gw_396 : (Jvm.Cond.code ({ cls := "java/lang/StringLatin1", name := "indexOfChar", desc := "([BIII)I" } : Jvm.MethodName) prog_18_method_23_code (6 : Nat) (Option.some Jvm.ClassFile.FieldType.int)) ∈ mm_G := mm_gi_3 (i := 100) rfl rfl
theorem gw_397 : (Jvm.Cond.code ({ cls := "java/lang/StringLatin1", name := "indexOf", desc := "([BIII)I" } : Jvm.MethodName) prog_18_method_22_code (4 : Nat) (Option.some Jvm.ClassFile.FieldType.int)) ∈ mm_G := mm_gi_3 (i := 88) rfl rfl
theorem gw_398 : (Jvm.Cond.code ({ cls := "java/lang/StringLatin1", name := "canEncode", desc := "(I)Z" } : Jvm.MethodName) prog_18_method_4_code (1 : Nat) (Option.some Jvm.ClassFile.FieldType.boolean)) ∈ mm_G := mm_gi_3 (i := 91) rfl rfl
theorem gw_399 : (Jvm.Cond.code ({ cls := "java/lang/StringLatin1", name := "charAt", desc := "([BI)C" } : Jvm.MethodName) prog_18_method_2_code (2 : Nat) (Option.some Jvm.ClassFile.FieldType.char)) ∈ mm_G := mm_gi_3 (i := 27) rfl rfl
theorem gw_400 : (Jvm.Cond.code ({ cls := "java/lang/String", name := "checkIndex", desc := "(II)V" } : Jvm.MethodName) prog_17_method_155_code (2 : Nat) (Option.none : Option Jvm.ClassFile.FieldType)) ∈ mm_G := mm_gi_3 (i := 30) rfl rfl
theorem gw_401 : (Jvm.Cond.code ({ cls := "java/lang/String", name := "isLatin1", desc := "()Z" } : Jvm.MethodName) prog_17_method_154_code (1 : Nat) (Option.some Jvm.ClassFile.FieldType.boolean)) ∈ mm_G := mm_gi_3 (i := 24) rfl rfl
theorem gw_402 : (Jvm.Cond.code ({ cls := "java/lang/String", name := "coder", desc := "()B" } : Jvm.MethodName) prog_17_method_152_code (1 : Nat) (Option.some Jvm.ClassFile.FieldType.byte)) ∈ mm_G := mm_gi_3 (i := 14) rfl rfl
theorem gw_403 : (Jvm.Cond.code ({ cls := "java/lang/String", name := "indexOf", desc := "(II)I" } : Jvm.MethodName) prog_17_method_80_code (3 : Nat) (Option.some Jvm.ClassFile.FieldType.int)) ∈ mm_G := mm_gi_3 (i := 84) rfl rfl
theorem gw_404 : (Jvm.Cond.code ({ cls := "java/lang/String", name := "indexOf", desc := "(I)I" } : Jvm.MethodName) prog_17_method_79_code (2 : Nat) (Option.some Jvm.ClassFile.FieldType.int)) ∈ mm_G := mm_gi_3 (i := 80) rfl rfl
theorem gw_405 : (Jvm.Cond.code ({ cls := "java/lang/String", name := "charAt", desc := "(I)C" } : Jvm.MethodName) prog_17_method_56_code (2 : Nat) (Option.some Jvm.ClassFile.FieldType.char)) ∈ mm_G := mm_gi_3 (i := 20) rfl rfl
theorem gw_406 : (Jvm.Cond.code ({ cls := "java/lang/String", name := "isEmpty", desc := "()Z" } : Jvm.MethodName) prog_17_method_55_code (1 : Nat) (Option.some Jvm.ClassFile.FieldType.boolean)) ∈ mm_G := mm_gi_3 (i := 2) rfl rfl
theorem gw_407 : (Jvm.Cond.code ({ cls := "java/lang/String", name := "length", desc := "()I" } : Jvm.MethodName) prog_17_method_54_code (1 : Nat) (Option.some Jvm.ClassFile.FieldType.int)) ∈ mm_G := mm_gi_3 (i := 10) rfl rfl
theorem gw_408 : (Jvm.Cond.code ({ cls := "PennyMoreModel", name := "shift", desc := "(IIIII)I" } : Jvm.MethodName) prog_14_method_86_code (7 : Nat) (Option.some Jvm.ClassFile.FieldType.int)) ∈ mm_G := mm_gi_7 (i := 130) rfl rfl
theorem gw_409 : (Jvm.Cond.code ({ cls := "PennyMoreModel", name := "read", desc := "(II)J" } : Jvm.MethodName) prog_14_method_85_code (3 : Nat) (Option.some Jvm.ClassFile.FieldType.long)) ∈ mm_G := mm_gi_7 (i := 126) rfl rfl
theorem gw_410 : (Jvm.Cond.code ({ cls := "PennyMoreModel", name := "item", desc := "(IIJ)I" } : Jvm.MethodName) prog_14_method_84_code (5 : Nat) (Option.some Jvm.ClassFile.FieldType.int)) ∈ mm_G := mm_gi_7 (i := 119) rfl rfl
theorem gw_411 : (Jvm.Cond.code ({ cls := "PennyMoreModel", name := "cut", desc := "(IJ)J" } : Jvm.MethodName) prog_14_method_83_code (3 : Nat) (Option.some Jvm.ClassFile.FieldType.long)) ∈ mm_G := mm_gi_7 (i := 122) rfl rfl
theorem gw_412 : (Jvm.Cond.code ({ cls := "PennyMoreModel", name := "tape", desc := "(III)I" } : Jvm.MethodName) prog_14_method_82_code (5 : Nat) (Option.some Jvm.ClassFile.FieldType.int)) ∈ mm_G := mm_gi_7 (i := 115) rfl rfl
theorem gw_413 : (Jvm.Cond.code ({ cls := "PennyMoreModel", name := "count", desc := "(I)I" } : Jvm.MethodName) prog_14_method_81_code (2 : Nat) (Option.some Jvm.ClassFile.FieldType.int)) ∈ mm_G := mm_gi_7 (i := 111) rfl rfl
theorem gw_414 : (Jvm.Cond.code ({ cls := "PennyMoreModel", name := "taken", desc := "(II)I" } : Jvm.MethodName) prog_14_method_80_code (4 : Nat) (Option.some Jvm.ClassFile.FieldType.int)) ∈ mm_G := mm_gi_7 (i := 107) rfl rfl
theorem gw_415 : (Jvm.Cond.code ({ cls := "PennyMoreModel", name := "trace", desc := "(I)I" } : Jvm.MethodName) prog_14_method_79_code (2 : Nat) (Option.some Jvm.ClassFile.FieldType.int)) ∈ mm_G := mm_gi_7 (i := 103) rfl rfl
theorem gw_416 : (Jvm.Cond.code ({ cls := "PennyMoreModel", name := "act", desc := "(III)I" } : Jvm.MethodName) prog_14_method_78_code (4 : Nat) (Option.some Jvm.ClassFile.FieldType.int)) ∈ mm_G := mm_gi_7 (i := 80) rfl rfl
theorem gw_417 : (Jvm.Cond.code ({ cls := "PennyMoreModel", name := "tellsIn", desc := "(II)I" } : Jvm.MethodName) prog_14_method_77_code (4 : Nat) (Option.some Jvm.ClassFile.FieldType.int)) ∈ mm_G := mm_gi_7 (i := 99) rfl rfl
theorem gw_418 : (Jvm.Cond.code ({ cls := "PennyMoreModel", name := "waitsIn", desc := "(II)I" } : Jvm.MethodName) prog_14_method_76_code (4 : Nat) (Option.some Jvm.ClassFile.FieldType.int)) ∈ mm_G := mm_gi_7 (i := 95) rfl rfl
theorem gw_419 : (Jvm.Cond.code ({ cls := "PennyMoreModel", name := "bids", desc := "(II)I" } : Jvm.MethodName) prog_14_method_75_code (3 : Nat) (Option.some Jvm.ClassFile.FieldType.int)) ∈ mm_G := mm_gi_7 (i := 84) rfl rfl
theorem gw_420 : (Jvm.Cond.methodLink "PennyMore$Buyer" (30 : Nat) ({ cls := "PennyMore$Buyer", name := "note", desc := "([II)V" } : Jvm.MethodName)) ∈ mm_G := mm_gi_4 (i := 180) rfl rfl
theorem gw_421 : (Jvm.Cond.static ({ cls := "PennyMore$Buyer", name := "note", desc := "([II)V" } : Jvm.MethodName)) ∈ mm_G := mm_gi_4 (i := 159) rfl rfl
theorem gw_422 : (Jvm.Cond.initialized "PennyMore$Buyer") ∈ mm_G := mm_gi_1 (i := 7) rfl rfl
theorem gw_423 : (Jvm.Cond.sameMethod "PennyMore$Falling" "PennyMore$Buyer" "note" "([II)V") ∈ mm_G := mm_gi_4 (i := 214) rfl rfl
theorem gw_424 : (Jvm.Cond.methodLink "PennyMore$Falling" (31 : Nat) ({ cls := "PennyMore$Falling", name := "note", desc := "([II)V" } : Jvm.MethodName)) ∈ mm_G := mm_gi_4 (i := 213) rfl rfl
theorem gw_425 : (Jvm.Cond.sameMethod "PennyMore$Late" "PennyMore$Buyer" "note" "([II)V") ∈ mm_G := mm_gi_4 (i := 223) rfl rfl
theorem gw_426 : (Jvm.Cond.methodLink "PennyMore$Late" (31 : Nat) ({ cls := "PennyMore$Late", name := "note", desc := "([II)V" } : Jvm.MethodName)) ∈ mm_G := mm_gi_4 (i := 222) rfl rfl
theorem gw_427 : (Jvm.Cond.sameMethod "PennyMore$Plain" "PennyMore$Buyer" "note" "([II)V") ∈ mm_G := mm_gi_4 (i := 191) rfl rfl
theorem gw_428 : (Jvm.Cond.methodLink "PennyMore$Plain" (21 : Nat) ({ cls := "PennyMore$Plain", name := "note", desc := "([II)V" } : Jvm.MethodName)) ∈ mm_G := mm_gi_4 (i := 190) rfl rfl
theorem gw_429 : (Jvm.Cond.methodLink "PennyMore$Reader" (66 : Nat) ({ cls := "PennyMore$Reader", name := "wordOf", desc := "(I)Ljava/lang/String;" } : Jvm.MethodName)) ∈ mm_G := mm_gi_2 (i := 229) rfl rfl
theorem gw_430 : (Jvm.Cond.static ({ cls := "PennyMore$Reader", name := "wordOf", desc := "(I)Ljava/lang/String;" } : Jvm.MethodName)) ∈ mm_G := mm_gi_2 (i := 230) rfl rfl
theorem gw_431 : (Jvm.Cond.initialized "PennyMore$Reader") ∈ mm_G := mm_gi_1 (i := 4) rfl rfl
theorem gw_432 : (Jvm.Cond.methodLink "PennyMore$Reader" (127 : Nat) ({ cls := "PennyMore$Shop", name := "codeOf", desc := "(III)I" } : Jvm.MethodName)) ∈ mm_G := mm_gi_3 (i := 137) rfl rfl
theorem gw_433 : (Jvm.Cond.static ({ cls := "PennyMore$Shop", name := "codeOf", desc := "(III)I" } : Jvm.MethodName)) ∈ mm_G := mm_gi_3 (i := 138) rfl rfl
theorem gw_434 : (Jvm.Cond.initialized "PennyMore$Shop") ∈ mm_G := mm_gi_1 (i := 2) rfl rfl
theorem gw_435 : (Jvm.Cond.methodLink "PennyMore$Shop" (50 : Nat) ({ cls := "PennyMore$Shop", name := "passes", desc := "(I[I)Z" } : Jvm.MethodName)) ∈ mm_G := mm_gi_2 (i := 175) rfl rfl
theorem gw_436 : (Jvm.Cond.static ({ cls := "PennyMore$Shop", name := "passes", desc := "(I[I)Z" } : Jvm.MethodName)) ∈ mm_G := mm_gi_2 (i := 176) rfl rfl
theorem gw_437 : (Jvm.Cond.sameMethod "PennyMore$Sure" "PennyMore$Buyer" "note" "([II)V") ∈ mm_G := mm_gi_4 (i := 167) rfl rfl
theorem gw_438 : (Jvm.Cond.methodLink "PennyMore$Sure" (24 : Nat) ({ cls := "PennyMore$Sure", name := "note", desc := "([II)V" } : Jvm.MethodName)) ∈ mm_G := mm_gi_4 (i := 166) rfl rfl
theorem gw_439 : (Jvm.Cond.sameMethod "PennyMore$Told" "PennyMore$Buyer" "note" "([II)V") ∈ mm_G := mm_gi_4 (i := 175) rfl rfl
theorem gw_440 : (Jvm.Cond.methodLink "PennyMore$Told" (32 : Nat) ({ cls := "PennyMore$Told", name := "note", desc := "([II)V" } : Jvm.MethodName)) ∈ mm_G := mm_gi_4 (i := 174) rfl rfl
theorem gw_441 : (Jvm.Cond.sameMethod "PennyMore$Waiting" "PennyMore$Buyer" "note" "([II)V") ∈ mm_G := mm_gi_4 (i := 158) rfl rfl
theorem gw_442 : (Jvm.Cond.methodLink "PennyMore$Waiting" (31 : Nat) ({ cls := "PennyMore$Waiting", name := "note", desc := "([II)V" } : Jvm.MethodName)) ∈ mm_G := mm_gi_4 (i := 157) rfl rfl
theorem gw_443 : (Jvm.Cond.methodLink "PennyMore" (69 : Nat) ({ cls := "PennyMore", name := "newBuyer", desc := "(IIII)LPennyMore$Buyer;" } : Jvm.MethodName)) ∈ mm_G := mm_gi_2 (i := 24) rfl rfl
theorem gw_444 : (Jvm.Cond.static ({ cls := "PennyMore", name := "newBuyer", desc := "(IIII)LPennyMore$Buyer;" } : Jvm.MethodName)) ∈ mm_G := mm_gi_2 (i := 25) rfl rfl
theorem gw_445 : (Jvm.Cond.initialized "PennyMore") ∈ mm_G := mm_gi_1 (i := 1) rfl rfl
theorem gw_446 : (Jvm.Cond.methodLink "PennyMore" (97 : Nat) ({ cls := "PennyMore", name := "orAbsent", desc := "(I)I" } : Jvm.MethodName)) ∈ mm_G := mm_gi_2 (i := 151) rfl rfl
theorem gw_447 : (Jvm.Cond.static ({ cls := "PennyMore", name := "orAbsent", desc := "(I)I" } : Jvm.MethodName)) ∈ mm_G := mm_gi_2 (i := 152) rfl rfl
theorem gw_448 : (Jvm.Cond.methodLink "PennyMore" (235 : Nat) ({ cls := "PennyMore", name := "lowestTerms", desc := "(JJI)J" } : Jvm.MethodName)) ∈ mm_G := mm_gi_4 (i := 76) rfl rfl
theorem gw_449 : (Jvm.Cond.static ({ cls := "PennyMore", name := "lowestTerms", desc := "(JJI)J" } : Jvm.MethodName)) ∈ mm_G := mm_gi_4 (i := 77) rfl rfl
theorem gw_450 : (Jvm.Cond.methodLink "PennyMore" (274 : Nat) ({ cls := "PennyMore", name := "isTape", desc := "(I)Z" } : Jvm.MethodName)) ∈ mm_G := mm_gi_4 (i := 130) rfl rfl
theorem gw_451 : (Jvm.Cond.static ({ cls := "PennyMore", name := "isTape", desc := "(I)Z" } : Jvm.MethodName)) ∈ mm_G := mm_gi_4 (i := 131) rfl rfl
theorem gw_452 : (Jvm.Cond.methodLink "PennyMore" (301 : Nat) ({ cls := "PennyMore", name := "isOneOf", desc := "(LPennyMore$Buyer;I)Z" } : Jvm.MethodName)) ∈ mm_G := mm_gi_5 (i := 1) rfl rfl
theorem gw_453 : (Jvm.Cond.static ({ cls := "PennyMore", name := "isOneOf", desc := "(LPennyMore$Buyer;I)Z" } : Jvm.MethodName)) ∈ mm_G := mm_gi_5 (i := 2) rfl rfl
theorem gw_454 : (Jvm.Cond.methodLink "PennyMoreModel" (162 : Nat) ({ cls := "PennyMoreModel", name := "in", desc := "(III)Z" } : Jvm.MethodName)) ∈ mm_G := mm_gi_6 (i := 40) rfl rfl
theorem gw_455 : (Jvm.Cond.static ({ cls := "PennyMoreModel", name := "in", desc := "(III)Z" } : Jvm.MethodName)) ∈ mm_G := mm_gi_6 (i := 41) rfl rfl
theorem gw_456 : (Jvm.Cond.initialized "PennyMoreModel") ∈ mm_G := mm_gi_1 (i := 6) rfl rfl
theorem gw_457 : (Jvm.Cond.methodLink "PennyMoreModel" (194 : Nat) ({ cls := "PennyMoreModel", name := "isFigure", desc := "(I)Z" } : Jvm.MethodName)) ∈ mm_G := mm_gi_6 (i := 128) rfl rfl
theorem gw_458 : (Jvm.Cond.static ({ cls := "PennyMoreModel", name := "isFigure", desc := "(I)Z" } : Jvm.MethodName)) ∈ mm_G := mm_gi_6 (i := 129) rfl rfl
theorem gw_459 : (Jvm.Cond.methodLink "PennyMoreModel" (323 : Nat) ({ cls := "PennyMoreModel", name := "orders", desc := "(I)I" } : Jvm.MethodName)) ∈ mm_G := mm_gi_6 (i := 235) rfl rfl
theorem gw_460 : (Jvm.Cond.static ({ cls := "PennyMoreModel", name := "orders", desc := "(I)I" } : Jvm.MethodName)) ∈ mm_G := mm_gi_6 (i := 236) rfl rfl
theorem gw_461 : (Jvm.Cond.methodLink "PennyMoreModel" (331 : Nat) ({ cls := "PennyMoreModel", name := "lowest", desc := "(JJI)J" } : Jvm.MethodName)) ∈ mm_G := mm_gi_7 (i := 11) rfl rfl
theorem gw_462 : (Jvm.Cond.static ({ cls := "PennyMoreModel", name := "lowest", desc := "(JJI)J" } : Jvm.MethodName)) ∈ mm_G := mm_gi_7 (i := 12) rfl rfl
theorem gw_463 : (Jvm.Cond.methodLink "PennyMoreModel" (392 : Nat) ({ cls := "PennyMoreModel", name := "above", desc := "(I)I" } : Jvm.MethodName)) ∈ mm_G := mm_gi_7 (i := 89) rfl rfl
theorem gw_464 : (Jvm.Cond.static ({ cls := "PennyMoreModel", name := "above", desc := "(I)I" } : Jvm.MethodName)) ∈ mm_G := mm_gi_7 (i := 90) rfl rfl
theorem gw_465 : (Jvm.Cond.methodLink "PennyMoreModel" (407 : Nat) ({ cls := "PennyMoreModel", name := "cut", desc := "(IJ)J" } : Jvm.MethodName)) ∈ mm_G := mm_gi_7 (i := 120) rfl rfl
theorem gw_466 : (Jvm.Cond.static ({ cls := "PennyMoreModel", name := "cut", desc := "(IJ)J" } : Jvm.MethodName)) ∈ mm_G := mm_gi_7 (i := 121) rfl rfl
theorem gw_467 : (Jvm.Cond.methodLink "java/lang/String" (495 : Nat) ({ cls := "java/lang/StringLatin1", name := "charAt", desc := "([BI)C" } : Jvm.MethodName)) ∈ mm_G := mm_gi_3 (i := 25) rfl rfl
theorem gw_468 : (Jvm.Cond.static ({ cls := "java/lang/StringLatin1", name := "charAt", desc := "([BI)C" } : Jvm.MethodName)) ∈ mm_G := mm_gi_3 (i := 26) rfl rfl
theorem gw_469 : (Jvm.Cond.initialized "java/lang/StringLatin1") ∈ mm_G := mm_gi_1 (i := 15) rfl rfl
theorem gw_470 : (Jvm.Cond.methodLink "java/lang/String" (637 : Nat) ({ cls := "java/lang/StringLatin1", name := "indexOf", desc := "([BIII)I" } : Jvm.MethodName)) ∈ mm_G := mm_gi_3 (i := 86) rfl rfl
theorem gw_471 : (Jvm.Cond.static ({ cls := "java/lang/StringLatin1", name := "indexOf", desc := "([BIII)I" } : Jvm.MethodName)) ∈ mm_G := mm_gi_3 (i := 87) rfl rfl
theorem gw_472 : (Jvm.Cond.methodLink "java/lang/String" (1059 : Nat) ({ cls := "jdk/internal/util/Preconditions", name := "checkIndex", desc := "(IILjava/util/function/BiFunction;)I" } : Jvm.MethodName)) ∈ mm_G := mm_gi_3 (i := 33) rfl rfl
theorem gw_473 : (Jvm.Cond.static ({ cls := "jdk/internal/util/Preconditions", name := "checkIndex", desc := "(IILjava/util/function/BiFunction;)I" } : Jvm.MethodName)) ∈ mm_G := mm_gi_3 (i := 34) rfl rfl
theorem gw_474 : (Jvm.Cond.initialized "jdk/internal/util/Preconditions") ∈ mm_G := mm_gi_1 (i := 16) rfl rfl
theorem gw_475 : (Jvm.Cond.methodLink "java/lang/StringLatin1" (9 : Nat) ({ cls := "java/lang/String", name := "checkIndex", desc := "(II)V" } : Jvm.MethodName)) ∈ mm_G := mm_gi_3 (i := 28) rfl rfl
theorem gw_476 : (Jvm.Cond.static ({ cls := "java/lang/String", name := "checkIndex", desc := "(II)V" } : Jvm.MethodName)) ∈ mm_G := mm_gi_3 (i := 29) rfl rfl
theorem gw_477 : (Jvm.Cond.initialized "java/lang/String") ∈ mm_G := mm_gi_1 (i := 14) rfl rfl
theorem gw_478 : (Jvm.Cond.methodLink "java/lang/StringLatin1" (88 : Nat) ({ cls := "java/lang/StringLatin1", name := "canEncode", desc := "(I)Z" } : Jvm.MethodName)) ∈ mm_G := mm_gi_3 (i := 89) rfl rfl
theorem gw_479 : (Jvm.Cond.static ({ cls := "java/lang/StringLatin1", name := "canEncode", desc := "(I)Z" } : Jvm.MethodName)) ∈ mm_G := mm_gi_3 (i := 90) rfl rfl
theorem gw_480 : (Jvm.Cond.methodLink "java/lang/StringLatin1" (95 : Nat) ({ cls := "java/lang/StringLatin1", name := "indexOfChar", desc := "([BIII)I" } : Jvm.MethodName)) ∈ mm_G := mm_gi_3 (i := 98) rfl rfl
theorem gw_481 : (Jvm.Cond.static ({ cls := "java/lang/StringLatin1", name := "indexOfChar", desc := "([BIII)I" } : Jvm.MethodName)) ∈ mm_G := mm_gi_3 (i := 99) rfl rfl
theorem gw_482 : (Jvm.Cond.methodLink "PennyMore$Buyer" (24 : Nat) ({ cls := "PennyMore$Day", name := "gainOfYes", desc := "()I" } : Jvm.MethodName)) ∈ mm_G := mm_gi_3 (i := 226) rfl rfl
theorem gw_483 : (Jvm.Cond.initialized "PennyMore$Day") ∈ mm_G := mm_gi_1 (i := 3) rfl rfl
theorem gw_484 : (Jvm.Cond.instanceMethod ({ cls := "PennyMore$Day", name := "gainOfYes", desc := "()I" } : Jvm.MethodName)) ∈ mm_G := mm_gi_3 (i := 212) rfl rfl
theorem gw_485 : (Jvm.Cond.selects "PennyMore$Day" ({ cls := "PennyMore$Day", name := "gainOfYes", desc := "()I" } : Jvm.MethodName) ({ cls := "PennyMore$Day", name := "gainOfYes", desc := "()I" } : Jvm.MethodName)) ∈ mm_G := mm_gi_3 (i := 213) rfl rfl
theorem gw_486 : (Jvm.Cond.sameMethod "PennyMore$Buyer" "PennyMore$Buyer" "bids" "(I[I)I") ∈ mm_G := mm_gi_4 (i := 152) rfl rfl
theorem gw_487 : (Jvm.Cond.instanceMethod ({ cls := "PennyMore$Buyer", name := "bids", desc := "(I[I)I" } : Jvm.MethodName)) ∈ mm_G := mm_gi_4 (i := 150) rfl rfl
theorem gw_488 : (Jvm.Cond.methodLink "PennyMore$Buyer" (34 : Nat) ({ cls := "PennyMore$Buyer", name := "bids", desc := "(I[I)I" } : Jvm.MethodName)) ∈ mm_G := mm_gi_4 (i := 205) rfl rfl
theorem gw_489 : (Jvm.Cond.initialized "PennyMore$Waiting") ∈ mm_G := mm_gi_1 (i := 9) rfl rfl
theorem gw_490 : (Jvm.Cond.instanceMethod ({ cls := "PennyMore$Waiting", name := "bids", desc := "(I[I)I" } : Jvm.MethodName)) ∈ mm_G := mm_gi_4 (i := 155) rfl rfl
theorem gw_491 : (Jvm.Cond.selects "PennyMore$Waiting" ({ cls := "PennyMore$Buyer", name := "bids", desc := "(I[I)I" } : Jvm.MethodName) ({ cls := "PennyMore$Waiting", name := "bids", desc := "(I[I)I" } : Jvm.MethodName)) ∈ mm_G := mm_gi_4 (i := 178) rfl rfl
theorem gw_492 : (Jvm.Cond.initialized "PennyMore$Told") ∈ mm_G := mm_gi_1 (i := 13) rfl rfl
theorem gw_493 : (Jvm.Cond.instanceMethod ({ cls := "PennyMore$Told", name := "bids", desc := "(I[I)I" } : Jvm.MethodName)) ∈ mm_G := mm_gi_4 (i := 172) rfl rfl
theorem gw_494 : (Jvm.Cond.selects "PennyMore$Told" ({ cls := "PennyMore$Buyer", name := "bids", desc := "(I[I)I" } : Jvm.MethodName) ({ cls := "PennyMore$Told", name := "bids", desc := "(I[I)I" } : Jvm.MethodName)) ∈ mm_G := mm_gi_4 (i := 171) rfl rfl
theorem gw_495 : (Jvm.Cond.initialized "PennyMore$Sure") ∈ mm_G := mm_gi_1 (i := 11) rfl rfl
theorem gw_496 : (Jvm.Cond.instanceMethod ({ cls := "PennyMore$Sure", name := "bids", desc := "(I[I)I" } : Jvm.MethodName)) ∈ mm_G := mm_gi_4 (i := 164) rfl rfl
theorem gw_497 : (Jvm.Cond.selects "PennyMore$Sure" ({ cls := "PennyMore$Buyer", name := "bids", desc := "(I[I)I" } : Jvm.MethodName) ({ cls := "PennyMore$Sure", name := "bids", desc := "(I[I)I" } : Jvm.MethodName)) ∈ mm_G := mm_gi_4 (i := 163) rfl rfl
theorem gw_498 : (Jvm.Cond.selects "PennyMore$Plain" ({ cls := "PennyMore$Buyer", name := "bids", desc := "(I[I)I" } : Jvm.MethodName) ({ cls := "PennyMore$Buyer", name := "bids", desc := "(I[I)I" } : Jvm.MethodName)) ∈ mm_G := mm_gi_4 (i := 162) rfl rfl
theorem gw_499 : (Jvm.Cond.selects "PennyMore$Late" ({ cls := "PennyMore$Buyer", name := "bids", desc := "(I[I)I" } : Jvm.MethodName) ({ cls := "PennyMore$Waiting", name := "bids", desc := "(I[I)I" } : Jvm.MethodName)) ∈ mm_G := mm_gi_4 (i := 154) rfl rfl
theorem gw_500 : (Jvm.Cond.selects "PennyMore$Falling" ({ cls := "PennyMore$Buyer", name := "bids", desc := "(I[I)I" } : Jvm.MethodName) ({ cls := "PennyMore$Buyer", name := "bids", desc := "(I[I)I" } : Jvm.MethodName)) ∈ mm_G := mm_gi_4 (i := 153) rfl rfl
theorem gw_501 : (Jvm.Cond.selects "PennyMore$Buyer" ({ cls := "PennyMore$Buyer", name := "bids", desc := "(I[I)I" } : Jvm.MethodName) ({ cls := "PennyMore$Buyer", name := "bids", desc := "(I[I)I" } : Jvm.MethodName)) ∈ mm_G := mm_gi_4 (i := 151) rfl rfl
theorem gw_502 : (Jvm.Cond.sameMethod "PennyMore$Buyer" "PennyMore$Buyer" "waits" "(I[I)I") ∈ mm_G := mm_gi_4 (i := 184) rfl rfl
theorem gw_503 : (Jvm.Cond.instanceMethod ({ cls := "PennyMore$Buyer", name := "waits", desc := "(I[I)I" } : Jvm.MethodName)) ∈ mm_G := mm_gi_4 (i := 182) rfl rfl
theorem gw_504 : (Jvm.Cond.methodLink "PennyMore$Buyer" (38 : Nat) ({ cls := "PennyMore$Buyer", name := "waits", desc := "(I[I)I" } : Jvm.MethodName)) ∈ mm_G := mm_gi_4 (i := 232) rfl rfl
theorem gw_505 : (Jvm.Cond.selects "PennyMore$Waiting" ({ cls := "PennyMore$Buyer", name := "waits", desc := "(I[I)I" } : Jvm.MethodName) ({ cls := "PennyMore$Buyer", name := "waits", desc := "(I[I)I" } : Jvm.MethodName)) ∈ mm_G := mm_gi_4 (i := 203) rfl rfl
theorem gw_506 : (Jvm.Cond.instanceMethod ({ cls := "PennyMore$Told", name := "waits", desc := "(I[I)I" } : Jvm.MethodName)) ∈ mm_G := mm_gi_4 (i := 198) rfl rfl
theorem gw_507 : (Jvm.Cond.selects "PennyMore$Told" ({ cls := "PennyMore$Buyer", name := "waits", desc := "(I[I)I" } : Jvm.MethodName) ({ cls := "PennyMore$Told", name := "waits", desc := "(I[I)I" } : Jvm.MethodName)) ∈ mm_G := mm_gi_4 (i := 197) rfl rfl
theorem gw_508 : (Jvm.Cond.instanceMethod ({ cls := "PennyMore$Sure", name := "waits", desc := "(I[I)I" } : Jvm.MethodName)) ∈ mm_G := mm_gi_4 (i := 194) rfl rfl
theorem gw_509 : (Jvm.Cond.selects "PennyMore$Sure" ({ cls := "PennyMore$Buyer", name := "waits", desc := "(I[I)I" } : Jvm.MethodName) ({ cls := "PennyMore$Sure", name := "waits", desc := "(I[I)I" } : Jvm.MethodName)) ∈ mm_G := mm_gi_4 (i := 193) rfl rfl
theorem gw_510 : (Jvm.Cond.initialized "PennyMore$Plain") ∈ mm_G := mm_gi_1 (i := 8) rfl rfl
theorem gw_511 : (Jvm.Cond.instanceMethod ({ cls := "PennyMore$Plain", name := "waits", desc := "(I[I)I" } : Jvm.MethodName)) ∈ mm_G := mm_gi_4 (i := 188) rfl rfl
theorem gw_512 : (Jvm.Cond.selects "PennyMore$Plain" ({ cls := "PennyMore$Buyer", name := "waits", desc := "(I[I)I" } : Jvm.MethodName) ({ cls := "PennyMore$Plain", name := "waits", desc := "(I[I)I" } : Jvm.MethodName)) ∈ mm_G := mm_gi_4 (i := 187) rfl rfl
theorem gw_513 : (Jvm.Cond.selects "PennyMore$Late" ({ cls := "PennyMore$Buyer", name := "waits", desc := "(I[I)I" } : Jvm.MethodName) ({ cls := "PennyMore$Buyer", name := "waits", desc := "(I[I)I" } : Jvm.MethodName)) ∈ mm_G := mm_gi_4 (i := 186) rfl rfl
theorem gw_514 : (Jvm.Cond.selects "PennyMore$Falling" ({ cls := "PennyMore$Buyer", name := "waits", desc := "(I[I)I" } : Jvm.MethodName) ({ cls := "PennyMore$Buyer", name := "waits", desc := "(I[I)I" } : Jvm.MethodName)) ∈ mm_G := mm_gi_4 (i := 185) rfl rfl
theorem gw_515 : (Jvm.Cond.selects "PennyMore$Buyer" ({ cls := "PennyMore$Buyer", name := "waits", desc := "(I[I)I" } : Jvm.MethodName) ({ cls := "PennyMore$Buyer", name := "waits", desc := "(I[I)I" } : Jvm.MethodName)) ∈ mm_G := mm_gi_4 (i := 183) rfl rfl
theorem gw_516 : (Jvm.Cond.methodLink "PennyMore$Day" (80 : Nat) ({ cls := "PennyMore$Day", name := "stand", desc := "(I)V" } : Jvm.MethodName)) ∈ mm_G := mm_gi_2 (i := 139) rfl rfl
theorem gw_517 : (Jvm.Cond.instanceMethod ({ cls := "PennyMore$Day", name := "stand", desc := "(I)V" } : Jvm.MethodName)) ∈ mm_G := mm_gi_2 (i := 140) rfl rfl
theorem gw_518 : (Jvm.Cond.selects "PennyMore$Day" ({ cls := "PennyMore$Day", name := "stand", desc := "(I)V" } : Jvm.MethodName) ({ cls := "PennyMore$Day", name := "stand", desc := "(I)V" } : Jvm.MethodName)) ∈ mm_G := mm_gi_2 (i := 141) rfl rfl
theorem gw_519 : (Jvm.Cond.methodLink "PennyMore$Day" (84 : Nat) ({ cls := "PennyMore$Day", name := "placeOf", desc := "(I)I" } : Jvm.MethodName)) ∈ mm_G := mm_gi_2 (i := 166) rfl rfl
theorem gw_520 : (Jvm.Cond.instanceMethod ({ cls := "PennyMore$Day", name := "placeOf", desc := "(I)I" } : Jvm.MethodName)) ∈ mm_G := mm_gi_2 (i := 155) rfl rfl
theorem gw_521 : (Jvm.Cond.selects "PennyMore$Day" ({ cls := "PennyMore$Day", name := "placeOf", desc := "(I)I" } : Jvm.MethodName) ({ cls := "PennyMore$Day", name := "placeOf", desc := "(I)I" } : Jvm.MethodName)) ∈ mm_G := mm_gi_2 (i := 156) rfl rfl
theorem gw_522 : (Jvm.Cond.methodLink "PennyMore$Day" (88 : Nat) ({ cls := "PennyMore$Day", name := "leave", desc := "(I)V" } : Jvm.MethodName)) ∈ mm_G := mm_gi_3 (i := 183) rfl rfl
theorem gw_523 : (Jvm.Cond.instanceMethod ({ cls := "PennyMore$Day", name := "leave", desc := "(I)V" } : Jvm.MethodName)) ∈ mm_G := mm_gi_3 (i := 184) rfl rfl
theorem gw_524 : (Jvm.Cond.selects "PennyMore$Day" ({ cls := "PennyMore$Day", name := "leave", desc := "(I)V" } : Jvm.MethodName) ({ cls := "PennyMore$Day", name := "leave", desc := "(I)V" } : Jvm.MethodName)) ∈ mm_G := mm_gi_3 (i := 185) rfl rfl
theorem gw_525 : (Jvm.Cond.methodLink "PennyMore$Day" (103 : Nat) ({ cls := "PennyMore$Day", name := "friendStands", desc := "(I)Z" } : Jvm.MethodName)) ∈ mm_G := mm_gi_2 (i := 162) rfl rfl
theorem gw_526 : (Jvm.Cond.instanceMethod ({ cls := "PennyMore$Day", name := "friendStands", desc := "(I)Z" } : Jvm.MethodName)) ∈ mm_G := mm_gi_2 (i := 163) rfl rfl
theorem gw_527 : (Jvm.Cond.selects "PennyMore$Day" ({ cls := "PennyMore$Day", name := "friendStands", desc := "(I)Z" } : Jvm.MethodName) ({ cls := "PennyMore$Day", name := "friendStands", desc := "(I)Z" } : Jvm.MethodName)) ∈ mm_G := mm_gi_2 (i := 164) rfl rfl
theorem gw_528 : (Jvm.Cond.methodLink "PennyMore$Day" (110 : Nat) ({ cls := "PennyMore$Shop", name := "sumOf", desc := "(I[I)I" } : Jvm.MethodName)) ∈ mm_G := mm_gi_2 (i := 167) rfl rfl
theorem gw_529 : (Jvm.Cond.instanceMethod ({ cls := "PennyMore$Shop", name := "sumOf", desc := "(I[I)I" } : Jvm.MethodName)) ∈ mm_G := mm_gi_2 (i := 168) rfl rfl
theorem gw_530 : (Jvm.Cond.selects "PennyMore$Shop" ({ cls := "PennyMore$Shop", name := "sumOf", desc := "(I[I)I" } : Jvm.MethodName) ({ cls := "PennyMore$Shop", name := "sumOf", desc := "(I[I)I" } : Jvm.MethodName)) ∈ mm_G := mm_gi_2 (i := 169) rfl rfl
theorem gw_531 : (Jvm.Cond.methodLink "PennyMore$Day" (114 : Nat) ({ cls := "PennyMore$Day", name := "weigh", desc := "(I)V" } : Jvm.MethodName)) ∈ mm_G := mm_gi_3 (i := 239) rfl rfl
theorem gw_532 : (Jvm.Cond.instanceMethod ({ cls := "PennyMore$Day", name := "weigh", desc := "(I)V" } : Jvm.MethodName)) ∈ mm_G := mm_gi_2 (i := 159) rfl rfl
theorem gw_533 : (Jvm.Cond.selects "PennyMore$Day" ({ cls := "PennyMore$Day", name := "weigh", desc := "(I)V" } : Jvm.MethodName) ({ cls := "PennyMore$Day", name := "weigh", desc := "(I)V" } : Jvm.MethodName)) ∈ mm_G := mm_gi_2 (i := 160) rfl rfl
theorem gw_534 : (Jvm.Cond.sameMethod "PennyMore$Buyer" "PennyMore$Buyer" "does" "(LPennyMore$Day;)I") ∈ mm_G := mm_gi_3 (i := 190) rfl rfl
theorem gw_535 : (Jvm.Cond.instanceMethod ({ cls := "PennyMore$Buyer", name := "does", desc := "(LPennyMore$Day;)I" } : Jvm.MethodName)) ∈ mm_G := mm_gi_3 (i := 188) rfl rfl
theorem gw_536 : (Jvm.Cond.methodLink "PennyMore$Day" (117 : Nat) ({ cls := "PennyMore$Buyer", name := "does", desc := "(LPennyMore$Day;)I" } : Jvm.MethodName)) ∈ mm_G := mm_gi_4 (i := 0) rfl rfl
theorem gw_537 : (Jvm.Cond.instanceMethod ({ cls := "PennyMore$Waiting", name := "does", desc := "(LPennyMore$Day;)I" } : Jvm.MethodName)) ∈ mm_G := mm_gi_3 (i := 204) rfl rfl
theorem gw_538 : (Jvm.Cond.selects "PennyMore$Waiting" ({ cls := "PennyMore$Buyer", name := "does", desc := "(LPennyMore$Day;)I" } : Jvm.MethodName) ({ cls := "PennyMore$Waiting", name := "does", desc := "(LPennyMore$Day;)I" } : Jvm.MethodName)) ∈ mm_G := mm_gi_3 (i := 224) rfl rfl
theorem gw_539 : (Jvm.Cond.instanceMethod ({ cls := "PennyMore$Told", name := "does", desc := "(LPennyMore$Day;)I" } : Jvm.MethodName)) ∈ mm_G := mm_gi_3 (i := 220) rfl rfl
theorem gw_540 : (Jvm.Cond.selects "PennyMore$Told" ({ cls := "PennyMore$Buyer", name := "does", desc := "(LPennyMore$Day;)I" } : Jvm.MethodName) ({ cls := "PennyMore$Told", name := "does", desc := "(LPennyMore$Day;)I" } : Jvm.MethodName)) ∈ mm_G := mm_gi_3 (i := 219) rfl rfl
theorem gw_541 : (Jvm.Cond.instanceMethod ({ cls := "PennyMore$Sure", name := "does", desc := "(LPennyMore$Day;)I" } : Jvm.MethodName)) ∈ mm_G := mm_gi_3 (i := 216) rfl rfl
theorem gw_542 : (Jvm.Cond.selects "PennyMore$Sure" ({ cls := "PennyMore$Buyer", name := "does", desc := "(LPennyMore$Day;)I" } : Jvm.MethodName) ({ cls := "PennyMore$Sure", name := "does", desc := "(LPennyMore$Day;)I" } : Jvm.MethodName)) ∈ mm_G := mm_gi_3 (i := 215) rfl rfl
theorem gw_543 : (Jvm.Cond.instanceMethod ({ cls := "PennyMore$Plain", name := "does", desc := "(LPennyMore$Day;)I" } : Jvm.MethodName)) ∈ mm_G := mm_gi_3 (i := 209) rfl rfl
theorem gw_544 : (Jvm.Cond.selects "PennyMore$Plain" ({ cls := "PennyMore$Buyer", name := "does", desc := "(LPennyMore$Day;)I" } : Jvm.MethodName) ({ cls := "PennyMore$Plain", name := "does", desc := "(LPennyMore$Day;)I" } : Jvm.MethodName)) ∈ mm_G := mm_gi_3 (i := 208) rfl rfl
theorem gw_545 : (Jvm.Cond.initialized "PennyMore$Late") ∈ mm_G := mm_gi_1 (i := 12) rfl rfl
theorem gw_546 : (Jvm.Cond.instanceMethod ({ cls := "PennyMore$Late", name := "does", desc := "(LPennyMore$Day;)I" } : Jvm.MethodName)) ∈ mm_G := mm_gi_3 (i := 197) rfl rfl
theorem gw_547 : (Jvm.Cond.selects "PennyMore$Late" ({ cls := "PennyMore$Buyer", name := "does", desc := "(LPennyMore$Day;)I" } : Jvm.MethodName) ({ cls := "PennyMore$Late", name := "does", desc := "(LPennyMore$Day;)I" } : Jvm.MethodName)) ∈ mm_G := mm_gi_3 (i := 196) rfl rfl
theorem gw_548 : (Jvm.Cond.initialized "PennyMore$Falling") ∈ mm_G := mm_gi_1 (i := 10) rfl rfl
theorem gw_549 : (Jvm.Cond.instanceMethod ({ cls := "PennyMore$Falling", name := "does", desc := "(LPennyMore$Day;)I" } : Jvm.MethodName)) ∈ mm_G := mm_gi_3 (i := 192) rfl rfl
theorem gw_550 : (Jvm.Cond.selects "PennyMore$Falling" ({ cls := "PennyMore$Buyer", name := "does", desc := "(LPennyMore$Day;)I" } : Jvm.MethodName) ({ cls := "PennyMore$Falling", name := "does", desc := "(LPennyMore$Day;)I" } : Jvm.MethodName)) ∈ mm_G := mm_gi_3 (i := 191) rfl rfl
theorem gw_551 : (Jvm.Cond.selects "PennyMore$Buyer" ({ cls := "PennyMore$Buyer", name := "does", desc := "(LPennyMore$Day;)I" } : Jvm.MethodName) ({ cls := "PennyMore$Buyer", name := "does", desc := "(LPennyMore$Day;)I" } : Jvm.MethodName)) ∈ mm_G := mm_gi_3 (i := 189) rfl rfl
theorem gw_552 : (Jvm.Cond.methodLink "PennyMore$Day" (121 : Nat) ({ cls := "PennyMore$Day", name := "carryOut", desc := "(I)V" } : Jvm.MethodName)) ∈ mm_G := mm_gi_4 (i := 1) rfl rfl
theorem gw_553 : (Jvm.Cond.instanceMethod ({ cls := "PennyMore$Day", name := "carryOut", desc := "(I)V" } : Jvm.MethodName)) ∈ mm_G := mm_gi_4 (i := 2) rfl rfl
theorem gw_554 : (Jvm.Cond.selects "PennyMore$Day" ({ cls := "PennyMore$Day", name := "carryOut", desc := "(I)V" } : Jvm.MethodName) ({ cls := "PennyMore$Day", name := "carryOut", desc := "(I)V" } : Jvm.MethodName)) ∈ mm_G := mm_gi_4 (i := 3) rfl rfl
theorem gw_555 : (Jvm.Cond.methodLink "PennyMore$Day" (136 : Nat) ({ cls := "PennyMore$Day", name := "turnComes", desc := "()Z" } : Jvm.MethodName)) ∈ mm_G := mm_gi_4 (i := 18) rfl rfl
theorem gw_556 : (Jvm.Cond.instanceMethod ({ cls := "PennyMore$Day", name := "turnComes", desc := "()Z" } : Jvm.MethodName)) ∈ mm_G := mm_gi_3 (i := 232) rfl rfl
theorem gw_557 : (Jvm.Cond.selects "PennyMore$Day" ({ cls := "PennyMore$Day", name := "turnComes", desc := "()Z" } : Jvm.MethodName) ({ cls := "PennyMore$Day", name := "turnComes", desc := "()Z" } : Jvm.MethodName)) ∈ mm_G := mm_gi_3 (i := 233) rfl rfl
theorem gw_558 : (Jvm.Cond.methodLink "PennyMore$Day" (140 : Nat) ({ cls := "PennyMore$Day", name := "turn", desc := "()I" } : Jvm.MethodName)) ∈ mm_G := mm_gi_4 (i := 19) rfl rfl
theorem gw_559 : (Jvm.Cond.instanceMethod ({ cls := "PennyMore$Day", name := "turn", desc := "()I" } : Jvm.MethodName)) ∈ mm_G := mm_gi_3 (i := 236) rfl rfl
theorem gw_560 : (Jvm.Cond.selects "PennyMore$Day" ({ cls := "PennyMore$Day", name := "turn", desc := "()I" } : Jvm.MethodName) ({ cls := "PennyMore$Day", name := "turn", desc := "()I" } : Jvm.MethodName)) ∈ mm_G := mm_gi_3 (i := 237) rfl rfl
theorem gw_561 : (Jvm.Cond.methodLink "PennyMore$Falling" (23 : Nat) ({ cls := "PennyMore$Day", name := "friendStands", desc := "(I)Z" } : Jvm.MethodName)) ∈ mm_G := mm_gi_3 (i := 194) rfl rfl
theorem gw_562 : (Jvm.Cond.sameMethod "PennyMore$Falling" "PennyMore$Buyer" "waits" "(I[I)I") ∈ mm_G := mm_gi_4 (i := 201) rfl rfl
theorem gw_563 : (Jvm.Cond.methodLink "PennyMore$Falling" (39 : Nat) ({ cls := "PennyMore$Falling", name := "waits", desc := "(I[I)I" } : Jvm.MethodName)) ∈ mm_G := mm_gi_4 (i := 216) rfl rfl
theorem gw_564 : (Jvm.Cond.selects "PennyMore$Told" ({ cls := "PennyMore$Falling", name := "waits", desc := "(I[I)I" } : Jvm.MethodName) ({ cls := "PennyMore$Told", name := "waits", desc := "(I[I)I" } : Jvm.MethodName)) ∈ mm_G := mm_gi_4 (i := 218) rfl rfl
theorem gw_565 : (Jvm.Cond.selects "PennyMore$Falling" ({ cls := "PennyMore$Falling", name := "waits", desc := "(I[I)I" } : Jvm.MethodName) ({ cls := "PennyMore$Buyer", name := "waits", desc := "(I[I)I" } : Jvm.MethodName)) ∈ mm_G := mm_gi_4 (i := 217) rfl rfl
theorem gw_566 : (Jvm.Cond.methodLink "PennyMore$Late" (23 : Nat) ({ cls := "PennyMore$Day", name := "mayGoAway", desc := "(I)Z" } : Jvm.MethodName)) ∈ mm_G := mm_gi_3 (i := 199) rfl rfl
theorem gw_567 : (Jvm.Cond.instanceMethod ({ cls := "PennyMore$Day", name := "mayGoAway", desc := "(I)Z" } : Jvm.MethodName)) ∈ mm_G := mm_gi_3 (i := 200) rfl rfl
theorem gw_568 : (Jvm.Cond.selects "PennyMore$Day" ({ cls := "PennyMore$Day", name := "mayGoAway", desc := "(I)Z" } : Jvm.MethodName) ({ cls := "PennyMore$Day", name := "mayGoAway", desc := "(I)Z" } : Jvm.MethodName)) ∈ mm_G := mm_gi_3 (i := 201) rfl rfl
theorem gw_569 : (Jvm.Cond.methodLink "PennyMore$Plain" (9 : Nat) ({ cls := "PennyMore$Day", name := "gainOfYes", desc := "()I" } : Jvm.MethodName)) ∈ mm_G := mm_gi_3 (i := 211) rfl rfl
theorem gw_570 : (Jvm.Cond.methodLink "PennyMore$Reader" (21 : Nat) ({ cls := "PennyMore$Shop", name := "clear", desc := "()V" } : Jvm.MethodName)) ∈ mm_G := mm_gi_2 (i := 220) rfl rfl
theorem gw_571 : (Jvm.Cond.instanceMethod ({ cls := "PennyMore$Shop", name := "clear", desc := "()V" } : Jvm.MethodName)) ∈ mm_G := mm_gi_1 (i := 36) rfl rfl
theorem gw_572 : (Jvm.Cond.selects "PennyMore$Shop" ({ cls := "PennyMore$Shop", name := "clear", desc := "()V" } : Jvm.MethodName) ({ cls := "PennyMore$Shop", name := "clear", desc := "()V" } : Jvm.MethodName)) ∈ mm_G := mm_gi_1 (i := 37) rfl rfl
theorem gw_573 : (Jvm.Cond.methodLink "PennyMore$Reader" (29 : Nat) ({ cls := "PennyMore$Reader", name := "clause", desc := "()Z" } : Jvm.MethodName)) ∈ mm_G := mm_gi_2 (i := 221) rfl rfl
theorem gw_574 : (Jvm.Cond.instanceMethod ({ cls := "PennyMore$Reader", name := "clause", desc := "()Z" } : Jvm.MethodName)) ∈ mm_G := mm_gi_2 (i := 223) rfl rfl
theorem gw_575 : (Jvm.Cond.selects "PennyMore$Reader" ({ cls := "PennyMore$Reader", name := "clause", desc := "()Z" } : Jvm.MethodName) ({ cls := "PennyMore$Reader", name := "clause", desc := "()Z" } : Jvm.MethodName)) ∈ mm_G := mm_gi (i := 2) rfl rfl
theorem gw_576 : (Jvm.Cond.methodLink "PennyMore$Reader" (35 : Nat) ({ cls := "PennyMore$Reader", name := "word", desc := "(Ljava/lang/String;)Z" } : Jvm.MethodName)) ∈ mm_G := mm_gi_3 (i := 3) rfl rfl
theorem gw_577 : (Jvm.Cond.instanceMethod ({ cls := "PennyMore$Reader", name := "word", desc := "(Ljava/lang/String;)Z" } : Jvm.MethodName)) ∈ mm_G := mm_gi_3 (i := 5) rfl rfl
theorem gw_578 : (Jvm.Cond.selects "PennyMore$Reader" ({ cls := "PennyMore$Reader", name := "word", desc := "(Ljava/lang/String;)Z" } : Jvm.MethodName) ({ cls := "PennyMore$Reader", name := "word", desc := "(Ljava/lang/String;)Z" } : Jvm.MethodName)) ∈ mm_G := mm_gi (i := 4) rfl rfl
theorem gw_579 : (Jvm.Cond.methodLink "PennyMore$Reader" (39 : Nat) ({ cls := "java/lang/String", name := "length", desc := "()I" } : Jvm.MethodName)) ∈ mm_G := mm_gi_3 (i := 7) rfl rfl
theorem gw_580 : (Jvm.Cond.instanceMethod ({ cls := "java/lang/String", name := "length", desc := "()I" } : Jvm.MethodName)) ∈ mm_G := mm_gi_3 (i := 8) rfl rfl
theorem gw_581 : (Jvm.Cond.selects "java/lang/String" ({ cls := "java/lang/String", name := "length", desc := "()I" } : Jvm.MethodName) ({ cls := "java/lang/String", name := "length", desc := "()I" } : Jvm.MethodName)) ∈ mm_G := mm_gi_3 (i := 9) rfl rfl
theorem gw_582 : (Jvm.Cond.methodLink "PennyMore$Reader" (45 : Nat) ({ cls := "PennyMore$Reader", name := "next", desc := "()I" } : Jvm.MethodName)) ∈ mm_G := mm_gi_2 (i := 225) rfl rfl
theorem gw_583 : (Jvm.Cond.instanceMethod ({ cls := "PennyMore$Reader", name := "next", desc := "()I" } : Jvm.MethodName)) ∈ mm_G := mm_gi_2 (i := 227) rfl rfl
theorem gw_584 : (Jvm.Cond.selects "PennyMore$Reader" ({ cls := "PennyMore$Reader", name := "next", desc := "()I" } : Jvm.MethodName) ({ cls := "PennyMore$Reader", name := "next", desc := "()I" } : Jvm.MethodName)) ∈ mm_G := mm_gi (i := 3) rfl rfl
theorem gw_585 : (Jvm.Cond.methodLink "PennyMore$Reader" (48 : Nat) ({ cls := "java/lang/String", name := "charAt", desc := "(I)C" } : Jvm.MethodName)) ∈ mm_G := mm_gi_3 (i := 17) rfl rfl
theorem gw_586 : (Jvm.Cond.instanceMethod ({ cls := "java/lang/String", name := "charAt", desc := "(I)C" } : Jvm.MethodName)) ∈ mm_G := mm_gi_3 (i := 18) rfl rfl
theorem gw_587 : (Jvm.Cond.selects "java/lang/String" ({ cls := "java/lang/String", name := "charAt", desc := "(I)C" } : Jvm.MethodName) ({ cls := "java/lang/String", name := "charAt", desc := "(I)C" } : Jvm.MethodName)) ∈ mm_G := mm_gi_3 (i := 19) rfl rfl
theorem gw_588 : (Jvm.Cond.methodLink "PennyMore$Reader" (70 : Nat) ({ cls := "java/lang/String", name := "isEmpty", desc := "()Z" } : Jvm.MethodName)) ∈ mm_G := mm_gi_2 (i := 239) rfl rfl
theorem gw_589 : (Jvm.Cond.instanceMethod ({ cls := "java/lang/String", name := "isEmpty", desc := "()Z" } : Jvm.MethodName)) ∈ mm_G := mm_gi_3 (i := 0) rfl rfl
theorem gw_590 : (Jvm.Cond.selects "java/lang/String" ({ cls := "java/lang/String", name := "isEmpty", desc := "()Z" } : Jvm.MethodName) ({ cls := "java/lang/String", name := "isEmpty", desc := "()Z" } : Jvm.MethodName)) ∈ mm_G := mm_gi_3 (i := 1) rfl rfl
theorem gw_591 : (Jvm.Cond.methodLink "PennyMore$Reader" (73 : Nat) ({ cls := "PennyMore$Reader", name := "number", desc := "()I" } : Jvm.MethodName)) ∈ mm_G := mm_gi_3 (i := 55) rfl rfl
theorem gw_592 : (Jvm.Cond.instanceMethod ({ cls := "PennyMore$Reader", name := "number", desc := "()I" } : Jvm.MethodName)) ∈ mm_G := mm_gi_3 (i := 57) rfl rfl
theorem gw_593 : (Jvm.Cond.selects "PennyMore$Reader" ({ cls := "PennyMore$Reader", name := "number", desc := "()I" } : Jvm.MethodName) ({ cls := "PennyMore$Reader", name := "number", desc := "()I" } : Jvm.MethodName)) ∈ mm_G := mm_gi (i := 5) rfl rfl
theorem gw_594 : (Jvm.Cond.methodLink "PennyMore$Reader" (78 : Nat) ({ cls := "PennyMore$Reader", name := "either", desc := "(I)Z" } : Jvm.MethodName)) ∈ mm_G := mm_gi_3 (i := 60) rfl rfl
theorem gw_595 : (Jvm.Cond.instanceMethod ({ cls := "PennyMore$Reader", name := "either", desc := "(I)Z" } : Jvm.MethodName)) ∈ mm_G := mm_gi_3 (i := 62) rfl rfl
theorem gw_596 : (Jvm.Cond.selects "PennyMore$Reader" ({ cls := "PennyMore$Reader", name := "either", desc := "(I)Z" } : Jvm.MethodName) ({ cls := "PennyMore$Reader", name := "either", desc := "(I)Z" } : Jvm.MethodName)) ∈ mm_G := mm_gi (i := 6) rfl rfl
theorem gw_597 : (Jvm.Cond.methodLink "PennyMore$Reader" (82 : Nat) ({ cls := "PennyMore$Shop", name := "putClause", desc := "(II)V" } : Jvm.MethodName)) ∈ mm_G := mm_gi_3 (i := 145) rfl rfl
theorem gw_598 : (Jvm.Cond.instanceMethod ({ cls := "PennyMore$Shop", name := "putClause", desc := "(II)V" } : Jvm.MethodName)) ∈ mm_G := mm_gi_3 (i := 146) rfl rfl
theorem gw_599 : (Jvm.Cond.selects "PennyMore$Shop" ({ cls := "PennyMore$Shop", name := "putClause", desc := "(II)V" } : Jvm.MethodName) ({ cls := "PennyMore$Shop", name := "putClause", desc := "(II)V" } : Jvm.MethodName)) ∈ mm_G := mm_gi_3 (i := 147) rfl rfl
theorem gw_600 : (Jvm.Cond.methodLink "PennyMore$Reader" (104 : Nat) ({ cls := "PennyMore$Reader", name := "both", desc := "(I)Z" } : Jvm.MethodName)) ∈ mm_G := mm_gi_3 (i := 64) rfl rfl
theorem gw_601 : (Jvm.Cond.instanceMethod ({ cls := "PennyMore$Reader", name := "both", desc := "(I)Z" } : Jvm.MethodName)) ∈ mm_G := mm_gi_3 (i := 66) rfl rfl
theorem gw_602 : (Jvm.Cond.selects "PennyMore$Reader" ({ cls := "PennyMore$Reader", name := "both", desc := "(I)Z" } : Jvm.MethodName) ({ cls := "PennyMore$Reader", name := "both", desc := "(I)Z" } : Jvm.MethodName)) ∈ mm_G := mm_gi (i := 7) rfl rfl
theorem gw_603 : (Jvm.Cond.methodLink "PennyMore$Reader" (107 : Nat) ({ cls := "PennyMore$Shop", name := "putCode", desc := "(I)V" } : Jvm.MethodName)) ∈ mm_G := mm_gi_3 (i := 140) rfl rfl
theorem gw_604 : (Jvm.Cond.instanceMethod ({ cls := "PennyMore$Shop", name := "putCode", desc := "(I)V" } : Jvm.MethodName)) ∈ mm_G := mm_gi_3 (i := 141) rfl rfl
theorem gw_605 : (Jvm.Cond.selects "PennyMore$Shop" ({ cls := "PennyMore$Shop", name := "putCode", desc := "(I)V" } : Jvm.MethodName) ({ cls := "PennyMore$Shop", name := "putCode", desc := "(I)V" } : Jvm.MethodName)) ∈ mm_G := mm_gi_3 (i := 142) rfl rfl
theorem gw_606 : (Jvm.Cond.methodLink "PennyMore$Reader" (111 : Nat) ({ cls := "PennyMore$Reader", name := "factor", desc := "(I)Z" } : Jvm.MethodName)) ∈ mm_G := mm_gi_3 (i := 68) rfl rfl
theorem gw_607 : (Jvm.Cond.instanceMethod ({ cls := "PennyMore$Reader", name := "factor", desc := "(I)Z" } : Jvm.MethodName)) ∈ mm_G := mm_gi_3 (i := 70) rfl rfl
theorem gw_608 : (Jvm.Cond.selects "PennyMore$Reader" ({ cls := "PennyMore$Reader", name := "factor", desc := "(I)Z" } : Jvm.MethodName) ({ cls := "PennyMore$Reader", name := "factor", desc := "(I)Z" } : Jvm.MethodName)) ∈ mm_G := mm_gi (i := 8) rfl rfl
theorem gw_609 : (Jvm.Cond.methodLink "PennyMore$Reader" (114 : Nat) ({ cls := "PennyMore$Reader", name := "test", desc := "()Z" } : Jvm.MethodName)) ∈ mm_G := mm_gi_3 (i := 72) rfl rfl
theorem gw_610 : (Jvm.Cond.instanceMethod ({ cls := "PennyMore$Reader", name := "test", desc := "()Z" } : Jvm.MethodName)) ∈ mm_G := mm_gi_3 (i := 74) rfl rfl
theorem gw_611 : (Jvm.Cond.selects "PennyMore$Reader" ({ cls := "PennyMore$Reader", name := "test", desc := "()Z" } : Jvm.MethodName) ({ cls := "PennyMore$Reader", name := "test", desc := "()Z" } : Jvm.MethodName)) ∈ mm_G := mm_gi (i := 9) rfl rfl
theorem gw_612 : (Jvm.Cond.methodLink "PennyMore$Reader" (121 : Nat) ({ cls := "java/lang/String", name := "indexOf", desc := "(I)I" } : Jvm.MethodName)) ∈ mm_G := mm_gi_3 (i := 77) rfl rfl
theorem gw_613 : (Jvm.Cond.instanceMethod ({ cls := "java/lang/String", name := "indexOf", desc := "(I)I" } : Jvm.MethodName)) ∈ mm_G := mm_gi_3 (i := 78) rfl rfl
theorem gw_614 : (Jvm.Cond.selects "java/lang/String" ({ cls := "java/lang/String", name := "indexOf", desc := "(I)I" } : Jvm.MethodName) ({ cls := "java/lang/String", name := "indexOf", desc := "(I)I" } : Jvm.MethodName)) ∈ mm_G := mm_gi_3 (i := 79) rfl rfl
theorem gw_615 : (Jvm.Cond.methodLink "PennyMore$Shop" (24 : Nat) ({ cls := "PennyMore$Shop", name := "clear", desc := "()V" } : Jvm.MethodName)) ∈ mm_G := mm_gi_1 (i := 35) rfl rfl
theorem gw_616 : (Jvm.Cond.methodLink "PennyMore$Shop" (46 : Nat) ({ cls := "PennyMore$Shop", name := "holds", desc := "(II[I)Z" } : Jvm.MethodName)) ∈ mm_G := mm_gi_2 (i := 171) rfl rfl
theorem gw_617 : (Jvm.Cond.instanceMethod ({ cls := "PennyMore$Shop", name := "holds", desc := "(II[I)Z" } : Jvm.MethodName)) ∈ mm_G := mm_gi_2 (i := 173) rfl rfl
theorem gw_618 : (Jvm.Cond.selects "PennyMore$Shop" ({ cls := "PennyMore$Shop", name := "holds", desc := "(II[I)Z" } : Jvm.MethodName) ({ cls := "PennyMore$Shop", name := "holds", desc := "(II[I)Z" } : Jvm.MethodName)) ∈ mm_G := mm_gi (i := 0) rfl rfl
theorem gw_619 : (Jvm.Cond.methodLink "PennyMore$Told" (24 : Nat) ({ cls := "PennyMore$Day", name := "mayGoAway", desc := "(I)Z" } : Jvm.MethodName)) ∈ mm_G := mm_gi_3 (i := 222) rfl rfl
theorem gw_620 : (Jvm.Cond.methodLink "PennyMore$Waiting" (23 : Nat) ({ cls := "PennyMore$Day", name := "mayGoAway", desc := "(I)Z" } : Jvm.MethodName)) ∈ mm_G := mm_gi_3 (i := 206) rfl rfl
theorem gw_621 : (Jvm.Cond.methodLink "PennyMore" (73 : Nat) ({ cls := "PennyMore$Day", name := "welcome", desc := "(LPennyMore$Buyer;)V" } : Jvm.MethodName)) ∈ mm_G := mm_gi_2 (i := 135) rfl rfl
theorem gw_622 : (Jvm.Cond.instanceMethod ({ cls := "PennyMore$Day", name := "welcome", desc := "(LPennyMore$Buyer;)V" } : Jvm.MethodName)) ∈ mm_G := mm_gi_2 (i := 136) rfl rfl
theorem gw_623 : (Jvm.Cond.selects "PennyMore$Day" ({ cls := "PennyMore$Day", name := "welcome", desc := "(LPennyMore$Buyer;)V" } : Jvm.MethodName) ({ cls := "PennyMore$Day", name := "welcome", desc := "(LPennyMore$Buyer;)V" } : Jvm.MethodName)) ∈ mm_G := mm_gi_2 (i := 137) rfl rfl
theorem gw_624 : (Jvm.Cond.methodLink "PennyMore" (77 : Nat) ({ cls := "PennyMore$Day", name := "knows", desc := "(I)Z" } : Jvm.MethodName)) ∈ mm_G := mm_gi_2 (i := 147) rfl rfl
theorem gw_625 : (Jvm.Cond.instanceMethod ({ cls := "PennyMore$Day", name := "knows", desc := "(I)Z" } : Jvm.MethodName)) ∈ mm_G := mm_gi_2 (i := 148) rfl rfl
theorem gw_626 : (Jvm.Cond.selects "PennyMore$Day" ({ cls := "PennyMore$Day", name := "knows", desc := "(I)Z" } : Jvm.MethodName) ({ cls := "PennyMore$Day", name := "knows", desc := "(I)Z" } : Jvm.MethodName)) ∈ mm_G := mm_gi_2 (i := 149) rfl rfl
theorem gw_627 : (Jvm.Cond.methodLink "PennyMore" (104 : Nat) ({ cls := "PennyMore$Day", name := "placeOf", desc := "(I)I" } : Jvm.MethodName)) ∈ mm_G := mm_gi_2 (i := 154) rfl rfl
theorem gw_628 : (Jvm.Cond.methodLink "PennyMore" (107 : Nat) ({ cls := "PennyMore$Day", name := "weigh", desc := "(I)V" } : Jvm.MethodName)) ∈ mm_G := mm_gi_2 (i := 158) rfl rfl
theorem gw_629 : (Jvm.Cond.methodLink "PennyMore" (117 : Nat) ({ cls := "PennyMore", name := "rowDigits", desc := "(I)I" } : Jvm.MethodName)) ∈ mm_G := mm_gi_2 (i := 178) rfl rfl
theorem gw_630 : (Jvm.Cond.instanceMethod ({ cls := "PennyMore", name := "rowDigits", desc := "(I)I" } : Jvm.MethodName)) ∈ mm_G := mm_gi_2 (i := 180) rfl rfl
theorem gw_631 : (Jvm.Cond.selects "PennyMore" ({ cls := "PennyMore", name := "rowDigits", desc := "(I)I" } : Jvm.MethodName) ({ cls := "PennyMore", name := "rowDigits", desc := "(I)I" } : Jvm.MethodName)) ∈ mm_G := mm_gi (i := 1) rfl rfl
theorem gw_632 : (Jvm.Cond.methodLink "PennyMore" (127 : Nat) ({ cls := "PennyMore$Day", name := "stand", desc := "(I)V" } : Jvm.MethodName)) ∈ mm_G := mm_gi_2 (i := 199) rfl rfl
theorem gw_633 : (Jvm.Cond.methodLink "PennyMore" (136 : Nat) ({ cls := "PennyMore$Reader", name := "add", desc := "(I)Z" } : Jvm.MethodName)) ∈ mm_G := mm_gi_2 (i := 208) rfl rfl
theorem gw_634 : (Jvm.Cond.instanceMethod ({ cls := "PennyMore$Reader", name := "add", desc := "(I)Z" } : Jvm.MethodName)) ∈ mm_G := mm_gi_2 (i := 209) rfl rfl
theorem gw_635 : (Jvm.Cond.selects "PennyMore$Reader" ({ cls := "PennyMore$Reader", name := "add", desc := "(I)Z" } : Jvm.MethodName) ({ cls := "PennyMore$Reader", name := "add", desc := "(I)Z" } : Jvm.MethodName)) ∈ mm_G := mm_gi_2 (i := 210) rfl rfl
theorem gw_636 : (Jvm.Cond.methodLink "PennyMore" (145 : Nat) ({ cls := "PennyMore$Reader", name := "readInto", desc := "(LPennyMore$Shop;)I" } : Jvm.MethodName)) ∈ mm_G := mm_gi_2 (i := 216) rfl rfl
theorem gw_637 : (Jvm.Cond.instanceMethod ({ cls := "PennyMore$Reader", name := "readInto", desc := "(LPennyMore$Shop;)I" } : Jvm.MethodName)) ∈ mm_G := mm_gi_2 (i := 217) rfl rfl
theorem gw_638 : (Jvm.Cond.selects "PennyMore$Reader" ({ cls := "PennyMore$Reader", name := "readInto", desc := "(LPennyMore$Shop;)I" } : Jvm.MethodName) ({ cls := "PennyMore$Reader", name := "readInto", desc := "(LPennyMore$Shop;)I" } : Jvm.MethodName)) ∈ mm_G := mm_gi_2 (i := 218) rfl rfl
theorem gw_639 : (Jvm.Cond.methodLink "PennyMore" (149 : Nat) ({ cls := "PennyMore$Reader", name := "empty", desc := "()V" } : Jvm.MethodName)) ∈ mm_G := mm_gi_3 (i := 151) rfl rfl
theorem gw_640 : (Jvm.Cond.instanceMethod ({ cls := "PennyMore$Reader", name := "empty", desc := "()V" } : Jvm.MethodName)) ∈ mm_G := mm_gi_3 (i := 152) rfl rfl
theorem gw_641 : (Jvm.Cond.selects "PennyMore$Reader" ({ cls := "PennyMore$Reader", name := "empty", desc := "()V" } : Jvm.MethodName) ({ cls := "PennyMore$Reader", name := "empty", desc := "()V" } : Jvm.MethodName)) ∈ mm_G := mm_gi_3 (i := 153) rfl rfl
theorem gw_642 : (Jvm.Cond.methodLink "PennyMore" (152 : Nat) ({ cls := "PennyMore$Day", name := "open", desc := "(LPennyMore$Shop;)V" } : Jvm.MethodName)) ∈ mm_G := mm_gi_3 (i := 155) rfl rfl
theorem gw_643 : (Jvm.Cond.instanceMethod ({ cls := "PennyMore$Day", name := "open", desc := "(LPennyMore$Shop;)V" } : Jvm.MethodName)) ∈ mm_G := mm_gi_3 (i := 156) rfl rfl
theorem gw_644 : (Jvm.Cond.selects "PennyMore$Day" ({ cls := "PennyMore$Day", name := "open", desc := "(LPennyMore$Shop;)V" } : Jvm.MethodName) ({ cls := "PennyMore$Day", name := "open", desc := "(LPennyMore$Shop;)V" } : Jvm.MethodName)) ∈ mm_G := mm_gi_3 (i := 157) rfl rfl
theorem gw_645 : (Jvm.Cond.methodLink "PennyMore" (180 : Nat) ({ cls := "PennyMore$Day", name := "head", desc := "()I" } : Jvm.MethodName)) ∈ mm_G := mm_gi_3 (i := 164) rfl rfl
theorem gw_646 : (Jvm.Cond.instanceMethod ({ cls := "PennyMore$Day", name := "head", desc := "()I" } : Jvm.MethodName)) ∈ mm_G := mm_gi_3 (i := 165) rfl rfl
theorem gw_647 : (Jvm.Cond.selects "PennyMore$Day" ({ cls := "PennyMore$Day", name := "head", desc := "()I" } : Jvm.MethodName) ({ cls := "PennyMore$Day", name := "head", desc := "()I" } : Jvm.MethodName)) ∈ mm_G := mm_gi_3 (i := 166) rfl rfl
theorem gw_648 : (Jvm.Cond.methodLink "PennyMore" (184 : Nat) ({ cls := "PennyMore$Day", name := "copyOf", desc := "(LPennyMore$Day;)V" } : Jvm.MethodName)) ∈ mm_G := mm_gi_3 (i := 172) rfl rfl
theorem gw_649 : (Jvm.Cond.instanceMethod ({ cls := "PennyMore$Day", name := "copyOf", desc := "(LPennyMore$Day;)V" } : Jvm.MethodName)) ∈ mm_G := mm_gi_3 (i := 173) rfl rfl
theorem gw_650 : (Jvm.Cond.selects "PennyMore$Day" ({ cls := "PennyMore$Day", name := "copyOf", desc := "(LPennyMore$Day;)V" } : Jvm.MethodName) ({ cls := "PennyMore$Day", name := "copyOf", desc := "(LPennyMore$Day;)V" } : Jvm.MethodName)) ∈ mm_G := mm_gi_3 (i := 174) rfl rfl
theorem gw_651 : (Jvm.Cond.methodLink "PennyMore" (188 : Nat) ({ cls := "PennyMore$Day", name := "putAhead", desc := "(I)V" } : Jvm.MethodName)) ∈ mm_G := mm_gi_3 (i := 179) rfl rfl
theorem gw_652 : (Jvm.Cond.instanceMethod ({ cls := "PennyMore$Day", name := "putAhead", desc := "(I)V" } : Jvm.MethodName)) ∈ mm_G := mm_gi_3 (i := 180) rfl rfl
theorem gw_653 : (Jvm.Cond.selects "PennyMore$Day" ({ cls := "PennyMore$Day", name := "putAhead", desc := "(I)V" } : Jvm.MethodName) ({ cls := "PennyMore$Day", name := "putAhead", desc := "(I)V" } : Jvm.MethodName)) ∈ mm_G := mm_gi_3 (i := 181) rfl rfl
theorem gw_654 : (Jvm.Cond.methodLink "PennyMore" (191 : Nat) ({ cls := "PennyMore$Buyer", name := "does", desc := "(LPennyMore$Day;)I" } : Jvm.MethodName)) ∈ mm_G := mm_gi_3 (i := 187) rfl rfl
theorem gw_655 : (Jvm.Cond.methodLink "PennyMore" (195 : Nat) ({ cls := "PennyMore$Day", name := "turnComes", desc := "()Z" } : Jvm.MethodName)) ∈ mm_G := mm_gi_3 (i := 231) rfl rfl
theorem gw_656 : (Jvm.Cond.methodLink "PennyMore" (199 : Nat) ({ cls := "PennyMore$Day", name := "turn", desc := "()I" } : Jvm.MethodName)) ∈ mm_G := mm_gi_3 (i := 235) rfl rfl
theorem gw_657 : (Jvm.Cond.methodLink "PennyMore" (202 : Nat) ({ cls := "PennyMore", name := "runTrial", desc := "()V" } : Jvm.MethodName)) ∈ mm_G := mm_gi_4 (i := 10) rfl rfl
theorem gw_658 : (Jvm.Cond.instanceMethod ({ cls := "PennyMore", name := "runTrial", desc := "()V" } : Jvm.MethodName)) ∈ mm_G := mm_gi_4 (i := 12) rfl rfl
theorem gw_659 : (Jvm.Cond.selects "PennyMore" ({ cls := "PennyMore", name := "runTrial", desc := "()V" } : Jvm.MethodName) ({ cls := "PennyMore", name := "runTrial", desc := "()V" } : Jvm.MethodName)) ∈ mm_G := mm_gi (i := 10) rfl rfl
theorem gw_660 : (Jvm.Cond.methodLink "PennyMore" (205 : Nat) ({ cls := "PennyMore", name := "whoGetsLoaves", desc := "()I" } : Jvm.MethodName)) ∈ mm_G := mm_gi_4 (i := 20) rfl rfl
theorem gw_661 : (Jvm.Cond.instanceMethod ({ cls := "PennyMore", name := "whoGetsLoaves", desc := "()I" } : Jvm.MethodName)) ∈ mm_G := mm_gi_4 (i := 22) rfl rfl
theorem gw_662 : (Jvm.Cond.selects "PennyMore" ({ cls := "PennyMore", name := "whoGetsLoaves", desc := "()I" } : Jvm.MethodName) ({ cls := "PennyMore", name := "whoGetsLoaves", desc := "()I" } : Jvm.MethodName)) ∈ mm_G := mm_gi (i := 11) rfl rfl
theorem gw_663 : (Jvm.Cond.methodLink "PennyMore" (208 : Nat) ({ cls := "PennyMore$Day", name := "mayGoAway", desc := "(I)Z" } : Jvm.MethodName)) ∈ mm_G := mm_gi_4 (i := 28) rfl rfl
theorem gw_664 : (Jvm.Cond.methodLink "PennyMore" (211 : Nat) ({ cls := "PennyMore", name := "gainByFirst", desc := "(III)I" } : Jvm.MethodName)) ∈ mm_G := mm_gi_4 (i := 29) rfl rfl
theorem gw_665 : (Jvm.Cond.instanceMethod ({ cls := "PennyMore", name := "gainByFirst", desc := "(III)I" } : Jvm.MethodName)) ∈ mm_G := mm_gi_4 (i := 31) rfl rfl
theorem gw_666 : (Jvm.Cond.selects "PennyMore" ({ cls := "PennyMore", name := "gainByFirst", desc := "(III)I" } : Jvm.MethodName) ({ cls := "PennyMore", name := "gainByFirst", desc := "(III)I" } : Jvm.MethodName)) ∈ mm_G := mm_gi (i := 12) rfl rfl
theorem gw_667 : (Jvm.Cond.methodLink "PennyMore" (215 : Nat) ({ cls := "PennyMore", name := "findBestLineup", desc := "(I)I" } : Jvm.MethodName)) ∈ mm_G := mm_gi_4 (i := 42) rfl rfl
theorem gw_668 : (Jvm.Cond.instanceMethod ({ cls := "PennyMore", name := "findBestLineup", desc := "(I)I" } : Jvm.MethodName)) ∈ mm_G := mm_gi_4 (i := 44) rfl rfl
theorem gw_669 : (Jvm.Cond.selects "PennyMore" ({ cls := "PennyMore", name := "findBestLineup", desc := "(I)I" } : Jvm.MethodName) ({ cls := "PennyMore", name := "findBestLineup", desc := "(I)I" } : Jvm.MethodName)) ∈ mm_G := mm_gi (i := 13) rfl rfl
theorem gw_670 : (Jvm.Cond.methodLink "PennyMore" (218 : Nat) ({ cls := "PennyMore$Day", name := "toEnd", desc := "()V" } : Jvm.MethodName)) ∈ mm_G := mm_gi_4 (i := 14) rfl rfl
theorem gw_671 : (Jvm.Cond.instanceMethod ({ cls := "PennyMore$Day", name := "toEnd", desc := "()V" } : Jvm.MethodName)) ∈ mm_G := mm_gi_4 (i := 15) rfl rfl
theorem gw_672 : (Jvm.Cond.selects "PennyMore$Day" ({ cls := "PennyMore$Day", name := "toEnd", desc := "()V" } : Jvm.MethodName) ({ cls := "PennyMore$Day", name := "toEnd", desc := "()V" } : Jvm.MethodName)) ∈ mm_G := mm_gi_4 (i := 16) rfl rfl
theorem gw_673 : (Jvm.Cond.methodLink "PennyMore" (221 : Nat) ({ cls := "PennyMore", name := "bothLikeSwap", desc := "(I)Z" } : Jvm.MethodName)) ∈ mm_G := mm_gi_4 (i := 67) rfl rfl
theorem gw_674 : (Jvm.Cond.instanceMethod ({ cls := "PennyMore", name := "bothLikeSwap", desc := "(I)Z" } : Jvm.MethodName)) ∈ mm_G := mm_gi_4 (i := 69) rfl rfl
theorem gw_675 : (Jvm.Cond.selects "PennyMore" ({ cls := "PennyMore", name := "bothLikeSwap", desc := "(I)Z" } : Jvm.MethodName) ({ cls := "PennyMore", name := "bothLikeSwap", desc := "(I)Z" } : Jvm.MethodName)) ∈ mm_G := mm_gi (i := 18) rfl rfl
theorem gw_676 : (Jvm.Cond.methodLink "PennyMore" (226 : Nat) ({ cls := "PennyMore", name := "startLineups", desc := "()V" } : Jvm.MethodName)) ∈ mm_G := mm_gi_4 (i := 46) rfl rfl
theorem gw_677 : (Jvm.Cond.instanceMethod ({ cls := "PennyMore", name := "startLineups", desc := "()V" } : Jvm.MethodName)) ∈ mm_G := mm_gi_4 (i := 48) rfl rfl
theorem gw_678 : (Jvm.Cond.selects "PennyMore" ({ cls := "PennyMore", name := "startLineups", desc := "()V" } : Jvm.MethodName) ({ cls := "PennyMore", name := "startLineups", desc := "()V" } : Jvm.MethodName)) ∈ mm_G := mm_gi (i := 14) rfl rfl
theorem gw_679 : (Jvm.Cond.methodLink "PennyMore" (229 : Nat) ({ cls := "PennyMore", name := "standAsLineup", desc := "()V" } : Jvm.MethodName)) ∈ mm_G := mm_gi_4 (i := 50) rfl rfl
theorem gw_680 : (Jvm.Cond.instanceMethod ({ cls := "PennyMore", name := "standAsLineup", desc := "()V" } : Jvm.MethodName)) ∈ mm_G := mm_gi_4 (i := 52) rfl rfl
theorem gw_681 : (Jvm.Cond.selects "PennyMore" ({ cls := "PennyMore", name := "standAsLineup", desc := "()V" } : Jvm.MethodName) ({ cls := "PennyMore", name := "standAsLineup", desc := "()V" } : Jvm.MethodName)) ∈ mm_G := mm_gi (i := 15) rfl rfl
theorem gw_682 : (Jvm.Cond.methodLink "PennyMore" (232 : Nat) ({ cls := "PennyMore", name := "nextLineup", desc := "()Z" } : Jvm.MethodName)) ∈ mm_G := mm_gi_4 (i := 55) rfl rfl
theorem gw_683 : (Jvm.Cond.instanceMethod ({ cls := "PennyMore", name := "nextLineup", desc := "()Z" } : Jvm.MethodName)) ∈ mm_G := mm_gi_4 (i := 57) rfl rfl
theorem gw_684 : (Jvm.Cond.selects "PennyMore" ({ cls := "PennyMore", name := "nextLineup", desc := "()Z" } : Jvm.MethodName) ({ cls := "PennyMore", name := "nextLineup", desc := "()Z" } : Jvm.MethodName)) ∈ mm_G := mm_gi (i := 16) rfl rfl
theorem gw_685 : (Jvm.Cond.methodLink "PennyMore" (239 : Nat) ({ cls := "PennyMore", name := "nobodyRefuses", desc := "(I)Z" } : Jvm.MethodName)) ∈ mm_G := mm_gi_4 (i := 83) rfl rfl
theorem gw_686 : (Jvm.Cond.instanceMethod ({ cls := "PennyMore", name := "nobodyRefuses", desc := "(I)Z" } : Jvm.MethodName)) ∈ mm_G := mm_gi_4 (i := 85) rfl rfl
theorem gw_687 : (Jvm.Cond.selects "PennyMore" ({ cls := "PennyMore", name := "nobodyRefuses", desc := "(I)Z" } : Jvm.MethodName) ({ cls := "PennyMore", name := "nobodyRefuses", desc := "(I)Z" } : Jvm.MethodName)) ∈ mm_G := mm_gi (i := 19) rfl rfl
theorem gw_688 : (Jvm.Cond.methodLink "PennyMore" (245 : Nat) ({ cls := "PennyMore", name := "takersAt", desc := "(I)I" } : Jvm.MethodName)) ∈ mm_G := mm_gi_4 (i := 91) rfl rfl
theorem gw_689 : (Jvm.Cond.instanceMethod ({ cls := "PennyMore", name := "takersAt", desc := "(I)I" } : Jvm.MethodName)) ∈ mm_G := mm_gi_4 (i := 93) rfl rfl
theorem gw_690 : (Jvm.Cond.selects "PennyMore" ({ cls := "PennyMore", name := "takersAt", desc := "(I)I" } : Jvm.MethodName) ({ cls := "PennyMore", name := "takersAt", desc := "(I)I" } : Jvm.MethodName)) ∈ mm_G := mm_gi (i := 20) rfl rfl
theorem gw_691 : (Jvm.Cond.methodLink "PennyMore" (255 : Nat) ({ cls := "PennyMore$Day", name := "leave", desc := "(I)V" } : Jvm.MethodName)) ∈ mm_G := mm_gi_4 (i := 101) rfl rfl
theorem gw_692 : (Jvm.Cond.methodLink "PennyMore" (261 : Nat) ({ cls := "PennyMore", name := "weightOf", desc := "(I)J" } : Jvm.MethodName)) ∈ mm_G := mm_gi_4 (i := 110) rfl rfl
theorem gw_693 : (Jvm.Cond.instanceMethod ({ cls := "PennyMore", name := "weightOf", desc := "(I)J" } : Jvm.MethodName)) ∈ mm_G := mm_gi_4 (i := 112) rfl rfl
theorem gw_694 : (Jvm.Cond.selects "PennyMore" ({ cls := "PennyMore", name := "weightOf", desc := "(I)J" } : Jvm.MethodName) ({ cls := "PennyMore", name := "weightOf", desc := "(I)J" } : Jvm.MethodName)) ∈ mm_G := mm_gi (i := 21) rfl rfl
theorem gw_695 : (Jvm.Cond.methodLink "PennyMore" (265 : Nat) ({ cls := "PennyMore", name := "whoSaysYes", desc := "(I)I" } : Jvm.MethodName)) ∈ mm_G := mm_gi_4 (i := 114) rfl rfl
theorem gw_696 : (Jvm.Cond.instanceMethod ({ cls := "PennyMore", name := "whoSaysYes", desc := "(I)I" } : Jvm.MethodName)) ∈ mm_G := mm_gi_4 (i := 116) rfl rfl
theorem gw_697 : (Jvm.Cond.selects "PennyMore" ({ cls := "PennyMore", name := "whoSaysYes", desc := "(I)I" } : Jvm.MethodName) ({ cls := "PennyMore", name := "whoSaysYes", desc := "(I)I" } : Jvm.MethodName)) ∈ mm_G := mm_gi (i := 22) rfl rfl
theorem gw_698 : (Jvm.Cond.methodLink "PennyMore" (277 : Nat) ({ cls := "PennyMore$Tape", name := "holdsNothing", desc := "()Z" } : Jvm.MethodName)) ∈ mm_G := mm_gi_4 (i := 133) rfl rfl
theorem gw_699 : (Jvm.Cond.initialized "PennyMore$Tape") ∈ mm_G := mm_gi_1 (i := 5) rfl rfl
end
section
theorem gw_700 : (Jvm.Cond.instanceMethod ({ cls := "PennyMore$Tape", name := "holdsNothing", desc := "()Z" } : Jvm.MethodName)) ∈ mm_G := mm_gi_4 (i := 134) rfl rfl
theorem gw_701 : (Jvm.Cond.selects "PennyMore$Tape" ({ cls := "PennyMore$Tape", name := "holdsNothing", desc := "()Z" } : Jvm.MethodName) ({ cls := "PennyMore$Tape", name := "holdsNothing", desc := "()Z" } : Jvm.MethodName)) ∈ mm_G := mm_gi_4 (i := 135) rfl rfl
theorem gw_702 : (Jvm.Cond.methodLink "PennyMore" (292 : Nat) ({ cls := "PennyMore$Buyer", name := "bids", desc := "(I[I)I" } : Jvm.MethodName)) ∈ mm_G := mm_gi_4 (i := 149) rfl rfl
theorem gw_703 : (Jvm.Cond.methodLink "PennyMore" (296 : Nat) ({ cls := "PennyMore$Buyer", name := "waits", desc := "(I[I)I" } : Jvm.MethodName)) ∈ mm_G := mm_gi_4 (i := 181) rfl rfl
theorem gw_704 : (Jvm.Cond.sameMethod "PennyMore$Buyer" "PennyMore$Buyer" "tells" "(I[I)I") ∈ mm_G := mm_gi_4 (i := 209) rfl rfl
theorem gw_705 : (Jvm.Cond.instanceMethod ({ cls := "PennyMore$Buyer", name := "tells", desc := "(I[I)I" } : Jvm.MethodName)) ∈ mm_G := mm_gi_4 (i := 207) rfl rfl
theorem gw_706 : (Jvm.Cond.methodLink "PennyMore" (299 : Nat) ({ cls := "PennyMore$Buyer", name := "tells", desc := "(I[I)I" } : Jvm.MethodName)) ∈ mm_G := mm_gi_4 (i := 206) rfl rfl
theorem gw_707 : (Jvm.Cond.selects "PennyMore$Waiting" ({ cls := "PennyMore$Buyer", name := "tells", desc := "(I[I)I" } : Jvm.MethodName) ({ cls := "PennyMore$Buyer", name := "tells", desc := "(I[I)I" } : Jvm.MethodName)) ∈ mm_G := mm_gi_4 (i := 230) rfl rfl
theorem gw_708 : (Jvm.Cond.instanceMethod ({ cls := "PennyMore$Falling", name := "tells", desc := "(I[I)I" } : Jvm.MethodName)) ∈ mm_G := mm_gi_4 (i := 211) rfl rfl
theorem gw_709 : (Jvm.Cond.selects "PennyMore$Told" ({ cls := "PennyMore$Buyer", name := "tells", desc := "(I[I)I" } : Jvm.MethodName) ({ cls := "PennyMore$Falling", name := "tells", desc := "(I[I)I" } : Jvm.MethodName)) ∈ mm_G := mm_gi_4 (i := 229) rfl rfl
theorem gw_710 : (Jvm.Cond.selects "PennyMore$Sure" ({ cls := "PennyMore$Buyer", name := "tells", desc := "(I[I)I" } : Jvm.MethodName) ({ cls := "PennyMore$Buyer", name := "tells", desc := "(I[I)I" } : Jvm.MethodName)) ∈ mm_G := mm_gi_4 (i := 228) rfl rfl
theorem gw_711 : (Jvm.Cond.selects "PennyMore$Plain" ({ cls := "PennyMore$Buyer", name := "tells", desc := "(I[I)I" } : Jvm.MethodName) ({ cls := "PennyMore$Buyer", name := "tells", desc := "(I[I)I" } : Jvm.MethodName)) ∈ mm_G := mm_gi_4 (i := 227) rfl rfl
theorem gw_712 : (Jvm.Cond.instanceMethod ({ cls := "PennyMore$Late", name := "tells", desc := "(I[I)I" } : Jvm.MethodName)) ∈ mm_G := mm_gi_4 (i := 220) rfl rfl
theorem gw_713 : (Jvm.Cond.selects "PennyMore$Late" ({ cls := "PennyMore$Buyer", name := "tells", desc := "(I[I)I" } : Jvm.MethodName) ({ cls := "PennyMore$Late", name := "tells", desc := "(I[I)I" } : Jvm.MethodName)) ∈ mm_G := mm_gi_4 (i := 219) rfl rfl
theorem gw_714 : (Jvm.Cond.selects "PennyMore$Falling" ({ cls := "PennyMore$Buyer", name := "tells", desc := "(I[I)I" } : Jvm.MethodName) ({ cls := "PennyMore$Falling", name := "tells", desc := "(I[I)I" } : Jvm.MethodName)) ∈ mm_G := mm_gi_4 (i := 210) rfl rfl
theorem gw_715 : (Jvm.Cond.selects "PennyMore$Buyer" ({ cls := "PennyMore$Buyer", name := "tells", desc := "(I[I)I" } : Jvm.MethodName) ({ cls := "PennyMore$Buyer", name := "tells", desc := "(I[I)I" } : Jvm.MethodName)) ∈ mm_G := mm_gi_4 (i := 208) rfl rfl
theorem gw_716 : (Jvm.Cond.methodLink "PennyMore" (305 : Nat) ({ cls := "PennyMore$Tape", name := "become", desc := "(II)V" } : Jvm.MethodName)) ∈ mm_G := mm_gi_5 (i := 12) rfl rfl
theorem gw_717 : (Jvm.Cond.instanceMethod ({ cls := "PennyMore$Tape", name := "become", desc := "(II)V" } : Jvm.MethodName)) ∈ mm_G := mm_gi_5 (i := 13) rfl rfl
theorem gw_718 : (Jvm.Cond.selects "PennyMore$Tape" ({ cls := "PennyMore$Tape", name := "become", desc := "(II)V" } : Jvm.MethodName) ({ cls := "PennyMore$Tape", name := "become", desc := "(II)V" } : Jvm.MethodName)) ∈ mm_G := mm_gi_5 (i := 14) rfl rfl
theorem gw_719 : (Jvm.Cond.methodLink "PennyMore" (309 : Nat) ({ cls := "PennyMore$Tape", name := "hasPlace", desc := "(I)Z" } : Jvm.MethodName)) ∈ mm_G := mm_gi_5 (i := 20) rfl rfl
theorem gw_720 : (Jvm.Cond.instanceMethod ({ cls := "PennyMore$Tape", name := "hasPlace", desc := "(I)Z" } : Jvm.MethodName)) ∈ mm_G := mm_gi_5 (i := 21) rfl rfl
theorem gw_721 : (Jvm.Cond.selects "PennyMore$Tape" ({ cls := "PennyMore$Tape", name := "hasPlace", desc := "(I)Z" } : Jvm.MethodName) ({ cls := "PennyMore$Tape", name := "hasPlace", desc := "(I)Z" } : Jvm.MethodName)) ∈ mm_G := mm_gi_5 (i := 22) rfl rfl
theorem gw_722 : (Jvm.Cond.methodLink "PennyMore" (312 : Nat) ({ cls := "PennyMore$Tape", name := "narrowed", desc := "(J)J" } : Jvm.MethodName)) ∈ mm_G := mm_gi_5 (i := 24) rfl rfl
theorem gw_723 : (Jvm.Cond.instanceMethod ({ cls := "PennyMore$Tape", name := "narrowed", desc := "(J)J" } : Jvm.MethodName)) ∈ mm_G := mm_gi_5 (i := 25) rfl rfl
theorem gw_724 : (Jvm.Cond.selects "PennyMore$Tape" ({ cls := "PennyMore$Tape", name := "narrowed", desc := "(J)J" } : Jvm.MethodName) ({ cls := "PennyMore$Tape", name := "narrowed", desc := "(J)J" } : Jvm.MethodName)) ∈ mm_G := mm_gi_5 (i := 26) rfl rfl
theorem gw_725 : (Jvm.Cond.methodLink "PennyMore" (316 : Nat) ({ cls := "PennyMore$Tape", name := "hasStretch", desc := "(II)Z" } : Jvm.MethodName)) ∈ mm_G := mm_gi_5 (i := 36) rfl rfl
theorem gw_726 : (Jvm.Cond.instanceMethod ({ cls := "PennyMore$Tape", name := "hasStretch", desc := "(II)Z" } : Jvm.MethodName)) ∈ mm_G := mm_gi_5 (i := 37) rfl rfl
theorem gw_727 : (Jvm.Cond.selects "PennyMore$Tape" ({ cls := "PennyMore$Tape", name := "hasStretch", desc := "(II)Z" } : Jvm.MethodName) ({ cls := "PennyMore$Tape", name := "hasStretch", desc := "(II)Z" } : Jvm.MethodName)) ∈ mm_G := mm_gi_5 (i := 38) rfl rfl
theorem gw_728 : (Jvm.Cond.methodLink "PennyMore" (348 : Nat) ({ cls := "PennyMore$Day", name := "carryOut", desc := "(I)V" } : Jvm.MethodName)) ∈ mm_G := mm_gi_4 (i := 33) rfl rfl
theorem gw_729 : (Jvm.Cond.methodLink "PennyMore" (351 : Nat) ({ cls := "PennyMore$Day", name := "gainedByAll", desc := "()I" } : Jvm.MethodName)) ∈ mm_G := mm_gi_4 (i := 34) rfl rfl
theorem gw_730 : (Jvm.Cond.instanceMethod ({ cls := "PennyMore$Day", name := "gainedByAll", desc := "()I" } : Jvm.MethodName)) ∈ mm_G := mm_gi_4 (i := 35) rfl rfl
theorem gw_731 : (Jvm.Cond.selects "PennyMore$Day" ({ cls := "PennyMore$Day", name := "gainedByAll", desc := "()I" } : Jvm.MethodName) ({ cls := "PennyMore$Day", name := "gainedByAll", desc := "()I" } : Jvm.MethodName)) ∈ mm_G := mm_gi_4 (i := 36) rfl rfl
theorem gw_732 : (Jvm.Cond.methodLink "PennyMore" (354 : Nat) ({ cls := "PennyMore", name := "swapInLineup", desc := "(II)V" } : Jvm.MethodName)) ∈ mm_G := mm_gi_4 (i := 59) rfl rfl
theorem gw_733 : (Jvm.Cond.instanceMethod ({ cls := "PennyMore", name := "swapInLineup", desc := "(II)V" } : Jvm.MethodName)) ∈ mm_G := mm_gi_4 (i := 61) rfl rfl
theorem gw_734 : (Jvm.Cond.selects "PennyMore" ({ cls := "PennyMore", name := "swapInLineup", desc := "(II)V" } : Jvm.MethodName) ({ cls := "PennyMore", name := "swapInLineup", desc := "(II)V" } : Jvm.MethodName)) ∈ mm_G := mm_gi (i := 17) rfl rfl
theorem gw_735 : (Jvm.Cond.methodLink "PennyMoreModel" (169 : Nat) ({ cls := "PennyMoreModel", name := "isBuyer", desc := "(I)Z" } : Jvm.MethodName)) ∈ mm_G := mm_gi_6 (i := 47) rfl rfl
theorem gw_736 : (Jvm.Cond.instanceMethod ({ cls := "PennyMoreModel", name := "isBuyer", desc := "(I)Z" } : Jvm.MethodName)) ∈ mm_G := mm_gi_6 (i := 49) rfl rfl
theorem gw_737 : (Jvm.Cond.selects "PennyMoreModel" ({ cls := "PennyMoreModel", name := "isBuyer", desc := "(I)Z" } : Jvm.MethodName) ({ cls := "PennyMoreModel", name := "isBuyer", desc := "(I)Z" } : Jvm.MethodName)) ∈ mm_G := mm_gi (i := 23) rfl rfl
theorem gw_738 : (Jvm.Cond.methodLink "PennyMoreModel" (173 : Nat) ({ cls := "PennyMoreModel", name := "placeOf", desc := "(I)I" } : Jvm.MethodName)) ∈ mm_G := mm_gi_6 (i := 51) rfl rfl
theorem gw_739 : (Jvm.Cond.instanceMethod ({ cls := "PennyMoreModel", name := "placeOf", desc := "(I)I" } : Jvm.MethodName)) ∈ mm_G := mm_gi_6 (i := 53) rfl rfl
theorem gw_740 : (Jvm.Cond.selects "PennyMoreModel" ({ cls := "PennyMoreModel", name := "placeOf", desc := "(I)I" } : Jvm.MethodName) ({ cls := "PennyMoreModel", name := "placeOf", desc := "(I)I" } : Jvm.MethodName)) ∈ mm_G := mm_gi (i := 24) rfl rfl
theorem gw_741 : (Jvm.Cond.methodLink "PennyMoreModel" (177 : Nat) ({ cls := "PennyMoreModel", name := "valueOf", desc := "(I)I" } : Jvm.MethodName)) ∈ mm_G := mm_gi_6 (i := 55) rfl rfl
theorem gw_742 : (Jvm.Cond.instanceMethod ({ cls := "PennyMoreModel", name := "valueOf", desc := "(I)I" } : Jvm.MethodName)) ∈ mm_G := mm_gi_6 (i := 57) rfl rfl
theorem gw_743 : (Jvm.Cond.selects "PennyMoreModel" ({ cls := "PennyMoreModel", name := "valueOf", desc := "(I)I" } : Jvm.MethodName) ({ cls := "PennyMoreModel", name := "valueOf", desc := "(I)I" } : Jvm.MethodName)) ∈ mm_G := mm_gi (i := 25) rfl rfl
theorem gw_744 : (Jvm.Cond.methodLink "PennyMoreModel" (180 : Nat) ({ cls := "PennyMoreModel", name := "costOf", desc := "(I)I" } : Jvm.MethodName)) ∈ mm_G := mm_gi_6 (i := 71) rfl rfl
theorem gw_745 : (Jvm.Cond.instanceMethod ({ cls := "PennyMoreModel", name := "costOf", desc := "(I)I" } : Jvm.MethodName)) ∈ mm_G := mm_gi_6 (i := 73) rfl rfl
theorem gw_746 : (Jvm.Cond.selects "PennyMoreModel" ({ cls := "PennyMoreModel", name := "costOf", desc := "(I)I" } : Jvm.MethodName) ({ cls := "PennyMoreModel", name := "costOf", desc := "(I)I" } : Jvm.MethodName)) ∈ mm_G := mm_gi (i := 29) rfl rfl
theorem gw_747 : (Jvm.Cond.methodLink "PennyMoreModel" (190 : Nat) ({ cls := "PennyMoreModel", name := "sign", desc := "()I" } : Jvm.MethodName)) ∈ mm_G := mm_gi_6 (i := 116) rfl rfl
theorem gw_748 : (Jvm.Cond.instanceMethod ({ cls := "PennyMoreModel", name := "sign", desc := "()I" } : Jvm.MethodName)) ∈ mm_G := mm_gi_6 (i := 118) rfl rfl
theorem gw_749 : (Jvm.Cond.selects "PennyMoreModel" ({ cls := "PennyMoreModel", name := "sign", desc := "()I" } : Jvm.MethodName) ({ cls := "PennyMoreModel", name := "sign", desc := "()I" } : Jvm.MethodName)) ∈ mm_G := mm_gi (i := 33) rfl rfl
theorem gw_750 : (Jvm.Cond.methodLink "PennyMoreModel" (197 : Nat) ({ cls := "PennyMoreModel", name := "goesBy", desc := "(I)Z" } : Jvm.MethodName)) ∈ mm_G := mm_gi_6 (i := 120) rfl rfl
theorem gw_751 : (Jvm.Cond.instanceMethod ({ cls := "PennyMoreModel", name := "goesBy", desc := "(I)Z" } : Jvm.MethodName)) ∈ mm_G := mm_gi_6 (i := 122) rfl rfl
theorem gw_752 : (Jvm.Cond.selects "PennyMoreModel" ({ cls := "PennyMoreModel", name := "goesBy", desc := "(I)Z" } : Jvm.MethodName) ({ cls := "PennyMoreModel", name := "goesBy", desc := "(I)Z" } : Jvm.MethodName)) ∈ mm_G := mm_gi (i := 34) rfl rfl
theorem gw_753 : (Jvm.Cond.methodLink "PennyMoreModel" (203 : Nat) ({ cls := "PennyMoreModel", name := "numberRead", desc := "()I" } : Jvm.MethodName)) ∈ mm_G := mm_gi_6 (i := 124) rfl rfl
theorem gw_754 : (Jvm.Cond.instanceMethod ({ cls := "PennyMoreModel", name := "numberRead", desc := "()I" } : Jvm.MethodName)) ∈ mm_G := mm_gi_6 (i := 126) rfl rfl
theorem gw_755 : (Jvm.Cond.selects "PennyMoreModel" ({ cls := "PennyMoreModel", name := "numberRead", desc := "()I" } : Jvm.MethodName) ({ cls := "PennyMoreModel", name := "numberRead", desc := "()I" } : Jvm.MethodName)) ∈ mm_G := mm_gi (i := 35) rfl rfl
theorem gw_756 : (Jvm.Cond.methodLink "PennyMoreModel" (206 : Nat) ({ cls := "PennyMoreModel", name := "codes", desc := "(I)V" } : Jvm.MethodName)) ∈ mm_G := mm_gi_6 (i := 143) rfl rfl
theorem gw_757 : (Jvm.Cond.instanceMethod ({ cls := "PennyMoreModel", name := "codes", desc := "(I)V" } : Jvm.MethodName)) ∈ mm_G := mm_gi_6 (i := 145) rfl rfl
theorem gw_758 : (Jvm.Cond.selects "PennyMoreModel" ({ cls := "PennyMoreModel", name := "codes", desc := "(I)V" } : Jvm.MethodName) ({ cls := "PennyMoreModel", name := "codes", desc := "(I)V" } : Jvm.MethodName)) ∈ mm_G := mm_gi (i := 39) rfl rfl
theorem gw_759 : (Jvm.Cond.methodLink "PennyMoreModel" (215 : Nat) ({ cls := "PennyMoreModel", name := "opens", desc := "(I)Z" } : Jvm.MethodName)) ∈ mm_G := mm_gi_6 (i := 135) rfl rfl
theorem gw_760 : (Jvm.Cond.instanceMethod ({ cls := "PennyMoreModel", name := "opens", desc := "(I)Z" } : Jvm.MethodName)) ∈ mm_G := mm_gi_6 (i := 137) rfl rfl
theorem gw_761 : (Jvm.Cond.selects "PennyMoreModel" ({ cls := "PennyMoreModel", name := "opens", desc := "(I)Z" } : Jvm.MethodName) ({ cls := "PennyMoreModel", name := "opens", desc := "(I)Z" } : Jvm.MethodName)) ∈ mm_G := mm_gi (i := 37) rfl rfl
theorem gw_762 : (Jvm.Cond.methodLink "PennyMoreModel" (218 : Nat) ({ cls := "PennyMoreModel", name := "testRead", desc := "()Z" } : Jvm.MethodName)) ∈ mm_G := mm_gi_6 (i := 139) rfl rfl
theorem gw_763 : (Jvm.Cond.instanceMethod ({ cls := "PennyMoreModel", name := "testRead", desc := "()Z" } : Jvm.MethodName)) ∈ mm_G := mm_gi_6 (i := 141) rfl rfl
theorem gw_764 : (Jvm.Cond.selects "PennyMoreModel" ({ cls := "PennyMoreModel", name := "testRead", desc := "()Z" } : Jvm.MethodName) ({ cls := "PennyMoreModel", name := "testRead", desc := "()Z" } : Jvm.MethodName)) ∈ mm_G := mm_gi (i := 38) rfl rfl
theorem gw_765 : (Jvm.Cond.methodLink "PennyMoreModel" (222 : Nat) ({ cls := "PennyMoreModel", name := "noMoreNots", desc := "()V" } : Jvm.MethodName)) ∈ mm_G := mm_gi_6 (i := 147) rfl rfl
theorem gw_766 : (Jvm.Cond.instanceMethod ({ cls := "PennyMoreModel", name := "noMoreNots", desc := "()V" } : Jvm.MethodName)) ∈ mm_G := mm_gi_6 (i := 149) rfl rfl
theorem gw_767 : (Jvm.Cond.selects "PennyMoreModel" ({ cls := "PennyMoreModel", name := "noMoreNots", desc := "()V" } : Jvm.MethodName) ({ cls := "PennyMoreModel", name := "noMoreNots", desc := "()V" } : Jvm.MethodName)) ∈ mm_G := mm_gi (i := 40) rfl rfl
theorem gw_768 : (Jvm.Cond.methodLink "PennyMoreModel" (225 : Nat) ({ cls := "PennyMoreModel", name := "unwinds", desc := "(I)V" } : Jvm.MethodName)) ∈ mm_G := mm_gi_6 (i := 151) rfl rfl
theorem gw_769 : (Jvm.Cond.instanceMethod ({ cls := "PennyMoreModel", name := "unwinds", desc := "(I)V" } : Jvm.MethodName)) ∈ mm_G := mm_gi_6 (i := 153) rfl rfl
theorem gw_770 : (Jvm.Cond.selects "PennyMoreModel" ({ cls := "PennyMoreModel", name := "unwinds", desc := "(I)V" } : Jvm.MethodName) ({ cls := "PennyMoreModel", name := "unwinds", desc := "(I)V" } : Jvm.MethodName)) ∈ mm_G := mm_gi (i := 41) rfl rfl
theorem gw_771 : (Jvm.Cond.methodLink "PennyMoreModel" (228 : Nat) ({ cls := "PennyMoreModel", name := "wordRead", desc := "()I" } : Jvm.MethodName)) ∈ mm_G := mm_gi_6 (i := 112) rfl rfl
theorem gw_772 : (Jvm.Cond.instanceMethod ({ cls := "PennyMoreModel", name := "wordRead", desc := "()I" } : Jvm.MethodName)) ∈ mm_G := mm_gi_6 (i := 114) rfl rfl
theorem gw_773 : (Jvm.Cond.selects "PennyMoreModel" ({ cls := "PennyMoreModel", name := "wordRead", desc := "()I" } : Jvm.MethodName) ({ cls := "PennyMoreModel", name := "wordRead", desc := "()I" } : Jvm.MethodName)) ∈ mm_G := mm_gi (i := 32) rfl rfl
theorem gw_774 : (Jvm.Cond.methodLink "PennyMoreModel" (231 : Nat) ({ cls := "PennyMoreModel", name := "eRead", desc := "()Z" } : Jvm.MethodName)) ∈ mm_G := mm_gi_6 (i := 131) rfl rfl
theorem gw_775 : (Jvm.Cond.instanceMethod ({ cls := "PennyMoreModel", name := "eRead", desc := "()Z" } : Jvm.MethodName)) ∈ mm_G := mm_gi_6 (i := 133) rfl rfl
theorem gw_776 : (Jvm.Cond.selects "PennyMoreModel" ({ cls := "PennyMoreModel", name := "eRead", desc := "()Z" } : Jvm.MethodName) ({ cls := "PennyMoreModel", name := "eRead", desc := "()Z" } : Jvm.MethodName)) ∈ mm_G := mm_gi (i := 36) rfl rfl
theorem gw_777 : (Jvm.Cond.methodLink "PennyMoreModel" (234 : Nat) ({ cls := "PennyMoreModel", name := "clauseRead", desc := "()Z" } : Jvm.MethodName)) ∈ mm_G := mm_gi_6 (i := 108) rfl rfl
theorem gw_778 : (Jvm.Cond.instanceMethod ({ cls := "PennyMoreModel", name := "clauseRead", desc := "()Z" } : Jvm.MethodName)) ∈ mm_G := mm_gi_6 (i := 110) rfl rfl
theorem gw_779 : (Jvm.Cond.selects "PennyMoreModel" ({ cls := "PennyMoreModel", name := "clauseRead", desc := "()Z" } : Jvm.MethodName) ({ cls := "PennyMoreModel", name := "clauseRead", desc := "()Z" } : Jvm.MethodName)) ∈ mm_G := mm_gi (i := 31) rfl rfl
theorem gw_780 : (Jvm.Cond.methodLink "PennyMoreModel" (240 : Nat) ({ cls := "PennyMoreModel", name := "shopRead", desc := "()I" } : Jvm.MethodName)) ∈ mm_G := mm_gi_6 (i := 104) rfl rfl
theorem gw_781 : (Jvm.Cond.instanceMethod ({ cls := "PennyMoreModel", name := "shopRead", desc := "()I" } : Jvm.MethodName)) ∈ mm_G := mm_gi_6 (i := 106) rfl rfl
theorem gw_782 : (Jvm.Cond.selects "PennyMoreModel" ({ cls := "PennyMoreModel", name := "shopRead", desc := "()I" } : Jvm.MethodName) ({ cls := "PennyMoreModel", name := "shopRead", desc := "()I" } : Jvm.MethodName)) ∈ mm_G := mm_gi (i := 30) rfl rfl
theorem gw_783 : (Jvm.Cond.methodLink "PennyMoreModel" (243 : Nat) ({ cls := "PennyMoreModel", name := "testOf", desc := "(II)I" } : Jvm.MethodName)) ∈ mm_G := mm_gi_6 (i := 67) rfl rfl
theorem gw_784 : (Jvm.Cond.instanceMethod ({ cls := "PennyMoreModel", name := "testOf", desc := "(II)I" } : Jvm.MethodName)) ∈ mm_G := mm_gi_6 (i := 69) rfl rfl
theorem gw_785 : (Jvm.Cond.selects "PennyMoreModel" ({ cls := "PennyMoreModel", name := "testOf", desc := "(II)I" } : Jvm.MethodName) ({ cls := "PennyMoreModel", name := "testOf", desc := "(II)I" } : Jvm.MethodName)) ∈ mm_G := mm_gi (i := 28) rfl rfl
theorem gw_786 : (Jvm.Cond.methodLink "PennyMoreModel" (247 : Nat) ({ cls := "PennyMoreModel", name := "doesHold", desc := "(II)Z" } : Jvm.MethodName)) ∈ mm_G := mm_gi_6 (i := 63) rfl rfl
theorem gw_787 : (Jvm.Cond.instanceMethod ({ cls := "PennyMoreModel", name := "doesHold", desc := "(II)Z" } : Jvm.MethodName)) ∈ mm_G := mm_gi_6 (i := 65) rfl rfl
theorem gw_788 : (Jvm.Cond.selects "PennyMoreModel" ({ cls := "PennyMoreModel", name := "doesHold", desc := "(II)Z" } : Jvm.MethodName) ({ cls := "PennyMoreModel", name := "doesHold", desc := "(II)Z" } : Jvm.MethodName)) ∈ mm_G := mm_gi (i := 27) rfl rfl
theorem gw_789 : (Jvm.Cond.methodLink "PennyMoreModel" (251 : Nat) ({ cls := "PennyMoreModel", name := "sumOf", desc := "(II)I" } : Jvm.MethodName)) ∈ mm_G := mm_gi_6 (i := 59) rfl rfl
theorem gw_790 : (Jvm.Cond.instanceMethod ({ cls := "PennyMoreModel", name := "sumOf", desc := "(II)I" } : Jvm.MethodName)) ∈ mm_G := mm_gi_6 (i := 61) rfl rfl
theorem gw_791 : (Jvm.Cond.selects "PennyMoreModel" ({ cls := "PennyMoreModel", name := "sumOf", desc := "(II)I" } : Jvm.MethodName) ({ cls := "PennyMoreModel", name := "sumOf", desc := "(II)I" } : Jvm.MethodName)) ∈ mm_G := mm_gi (i := 26) rfl rfl
theorem gw_792 : (Jvm.Cond.methodLink "PennyMoreModel" (254 : Nat) ({ cls := "PennyMoreModel", name := "lawOf", desc := "(I)I" } : Jvm.MethodName)) ∈ mm_G := mm_gi_6 (i := 159) rfl rfl
theorem gw_793 : (Jvm.Cond.instanceMethod ({ cls := "PennyMoreModel", name := "lawOf", desc := "(I)I" } : Jvm.MethodName)) ∈ mm_G := mm_gi_6 (i := 161) rfl rfl
theorem gw_794 : (Jvm.Cond.selects "PennyMoreModel" ({ cls := "PennyMoreModel", name := "lawOf", desc := "(I)I" } : Jvm.MethodName) ({ cls := "PennyMoreModel", name := "lawOf", desc := "(I)I" } : Jvm.MethodName)) ∈ mm_G := mm_gi (i := 42) rfl rfl
theorem gw_795 : (Jvm.Cond.methodLink "PennyMoreModel" (263 : Nat) ({ cls := "PennyMoreModel", name := "gainOf", desc := "(I)I" } : Jvm.MethodName)) ∈ mm_G := mm_gi_6 (i := 175) rfl rfl
theorem gw_796 : (Jvm.Cond.instanceMethod ({ cls := "PennyMoreModel", name := "gainOf", desc := "(I)I" } : Jvm.MethodName)) ∈ mm_G := mm_gi_6 (i := 177) rfl rfl
theorem gw_797 : (Jvm.Cond.selects "PennyMoreModel" ({ cls := "PennyMoreModel", name := "gainOf", desc := "(I)I" } : Jvm.MethodName) ({ cls := "PennyMoreModel", name := "gainOf", desc := "(I)I" } : Jvm.MethodName)) ∈ mm_G := mm_gi (i := 45) rfl rfl
theorem gw_798 : (Jvm.Cond.methodLink "PennyMoreModel" (266 : Nat) ({ cls := "PennyMoreModel", name := "mayAway", desc := "(I)Z" } : Jvm.MethodName)) ∈ mm_G := mm_gi_6 (i := 183) rfl rfl
theorem gw_799 : (Jvm.Cond.instanceMethod ({ cls := "PennyMoreModel", name := "mayAway", desc := "(I)Z" } : Jvm.MethodName)) ∈ mm_G := mm_gi_6 (i := 185) rfl rfl
theorem gw_800 : (Jvm.Cond.selects "PennyMoreModel" ({ cls := "PennyMoreModel", name := "mayAway", desc := "(I)Z" } : Jvm.MethodName) ({ cls := "PennyMoreModel", name := "mayAway", desc := "(I)Z" } : Jvm.MethodName)) ∈ mm_G := mm_gi (i := 47) rfl rfl
theorem gw_801 : (Jvm.Cond.methodLink "PennyMoreModel" (269 : Nat) ({ cls := "PennyMoreModel", name := "asBuyer", desc := "(I)I" } : Jvm.MethodName)) ∈ mm_G := mm_gi_6 (i := 187) rfl rfl
theorem gw_802 : (Jvm.Cond.instanceMethod ({ cls := "PennyMoreModel", name := "asBuyer", desc := "(I)I" } : Jvm.MethodName)) ∈ mm_G := mm_gi_6 (i := 189) rfl rfl
theorem gw_803 : (Jvm.Cond.selects "PennyMoreModel" ({ cls := "PennyMoreModel", name := "asBuyer", desc := "(I)I" } : Jvm.MethodName) ({ cls := "PennyMoreModel", name := "asBuyer", desc := "(I)I" } : Jvm.MethodName)) ∈ mm_G := mm_gi (i := 48) rfl rfl
theorem gw_804 : (Jvm.Cond.methodLink "PennyMoreModel" (272 : Nat) ({ cls := "PennyMoreModel", name := "asPlain", desc := "(I)I" } : Jvm.MethodName)) ∈ mm_G := mm_gi_6 (i := 171) rfl rfl
theorem gw_805 : (Jvm.Cond.instanceMethod ({ cls := "PennyMoreModel", name := "asPlain", desc := "(I)I" } : Jvm.MethodName)) ∈ mm_G := mm_gi_6 (i := 173) rfl rfl
theorem gw_806 : (Jvm.Cond.selects "PennyMoreModel" ({ cls := "PennyMoreModel", name := "asPlain", desc := "(I)I" } : Jvm.MethodName) ({ cls := "PennyMoreModel", name := "asPlain", desc := "(I)I" } : Jvm.MethodName)) ∈ mm_G := mm_gi (i := 44) rfl rfl
theorem gw_807 : (Jvm.Cond.methodLink "PennyMoreModel" (275 : Nat) ({ cls := "PennyMoreModel", name := "asWaiting", desc := "(I)I" } : Jvm.MethodName)) ∈ mm_G := mm_gi_6 (i := 179) rfl rfl
theorem gw_808 : (Jvm.Cond.instanceMethod ({ cls := "PennyMoreModel", name := "asWaiting", desc := "(I)I" } : Jvm.MethodName)) ∈ mm_G := mm_gi_6 (i := 181) rfl rfl
theorem gw_809 : (Jvm.Cond.selects "PennyMoreModel" ({ cls := "PennyMoreModel", name := "asWaiting", desc := "(I)I" } : Jvm.MethodName) ({ cls := "PennyMoreModel", name := "asWaiting", desc := "(I)I" } : Jvm.MethodName)) ∈ mm_G := mm_gi (i := 46) rfl rfl
theorem gw_810 : (Jvm.Cond.methodLink "PennyMoreModel" (278 : Nat) ({ cls := "PennyMoreModel", name := "asFalling", desc := "(I)I" } : Jvm.MethodName)) ∈ mm_G := mm_gi_6 (i := 191) rfl rfl
theorem gw_811 : (Jvm.Cond.instanceMethod ({ cls := "PennyMoreModel", name := "asFalling", desc := "(I)I" } : Jvm.MethodName)) ∈ mm_G := mm_gi_6 (i := 193) rfl rfl
theorem gw_812 : (Jvm.Cond.selects "PennyMoreModel" ({ cls := "PennyMoreModel", name := "asFalling", desc := "(I)I" } : Jvm.MethodName) ({ cls := "PennyMoreModel", name := "asFalling", desc := "(I)I" } : Jvm.MethodName)) ∈ mm_G := mm_gi (i := 49) rfl rfl
theorem gw_813 : (Jvm.Cond.methodLink "PennyMoreModel" (281 : Nat) ({ cls := "PennyMoreModel", name := "wouldBe", desc := "(I)I" } : Jvm.MethodName)) ∈ mm_G := mm_gi_6 (i := 167) rfl rfl
theorem gw_814 : (Jvm.Cond.instanceMethod ({ cls := "PennyMoreModel", name := "wouldBe", desc := "(I)I" } : Jvm.MethodName)) ∈ mm_G := mm_gi_6 (i := 169) rfl rfl
theorem gw_815 : (Jvm.Cond.selects "PennyMoreModel" ({ cls := "PennyMoreModel", name := "wouldBe", desc := "(I)I" } : Jvm.MethodName) ({ cls := "PennyMoreModel", name := "wouldBe", desc := "(I)I" } : Jvm.MethodName)) ∈ mm_G := mm_gi (i := 43) rfl rfl
theorem gw_816 : (Jvm.Cond.methodLink "PennyMoreModel" (290 : Nat) ({ cls := "PennyMoreModel", name := "comes", desc := "()Z" } : Jvm.MethodName)) ∈ mm_G := mm_gi_6 (i := 199) rfl rfl
theorem gw_817 : (Jvm.Cond.instanceMethod ({ cls := "PennyMoreModel", name := "comes", desc := "()Z" } : Jvm.MethodName)) ∈ mm_G := mm_gi_6 (i := 201) rfl rfl
theorem gw_818 : (Jvm.Cond.selects "PennyMoreModel" ({ cls := "PennyMoreModel", name := "comes", desc := "()Z" } : Jvm.MethodName) ({ cls := "PennyMoreModel", name := "comes", desc := "()Z" } : Jvm.MethodName)) ∈ mm_G := mm_gi (i := 50) rfl rfl
theorem gw_819 : (Jvm.Cond.methodLink "PennyMoreModel" (293 : Nat) ({ cls := "PennyMoreModel", name := "does", desc := "(I)V" } : Jvm.MethodName)) ∈ mm_G := mm_gi_6 (i := 203) rfl rfl
theorem gw_820 : (Jvm.Cond.instanceMethod ({ cls := "PennyMoreModel", name := "does", desc := "(I)V" } : Jvm.MethodName)) ∈ mm_G := mm_gi_6 (i := 205) rfl rfl
theorem gw_821 : (Jvm.Cond.selects "PennyMoreModel" ({ cls := "PennyMoreModel", name := "does", desc := "(I)V" } : Jvm.MethodName) ({ cls := "PennyMoreModel", name := "does", desc := "(I)V" } : Jvm.MethodName)) ∈ mm_G := mm_gi (i := 51) rfl rfl
theorem gw_822 : (Jvm.Cond.methodLink "PennyMoreModel" (311 : Nat) ({ cls := "PennyMoreModel", name := "keeps", desc := "()V" } : Jvm.MethodName)) ∈ mm_G := mm_gi_6 (i := 211) rfl rfl
theorem gw_823 : (Jvm.Cond.instanceMethod ({ cls := "PennyMoreModel", name := "keeps", desc := "()V" } : Jvm.MethodName)) ∈ mm_G := mm_gi_6 (i := 213) rfl rfl
theorem gw_824 : (Jvm.Cond.selects "PennyMoreModel" ({ cls := "PennyMoreModel", name := "keeps", desc := "()V" } : Jvm.MethodName) ({ cls := "PennyMoreModel", name := "keeps", desc := "()V" } : Jvm.MethodName)) ∈ mm_G := mm_gi (i := 52) rfl rfl
theorem gw_825 : (Jvm.Cond.methodLink "PennyMoreModel" (314 : Nat) ({ cls := "PennyMoreModel", name := "toTheEnd", desc := "()V" } : Jvm.MethodName)) ∈ mm_G := mm_gi_6 (i := 215) rfl rfl
theorem gw_826 : (Jvm.Cond.instanceMethod ({ cls := "PennyMoreModel", name := "toTheEnd", desc := "()V" } : Jvm.MethodName)) ∈ mm_G := mm_gi_6 (i := 217) rfl rfl
theorem gw_827 : (Jvm.Cond.selects "PennyMoreModel" ({ cls := "PennyMoreModel", name := "toTheEnd", desc := "()V" } : Jvm.MethodName) ({ cls := "PennyMoreModel", name := "toTheEnd", desc := "()V" } : Jvm.MethodName)) ∈ mm_G := mm_gi (i := 53) rfl rfl
theorem gw_828 : (Jvm.Cond.methodLink "PennyMoreModel" (317 : Nat) ({ cls := "PennyMoreModel", name := "lays", desc := "()V" } : Jvm.MethodName)) ∈ mm_G := mm_gi_6 (i := 219) rfl rfl
theorem gw_829 : (Jvm.Cond.instanceMethod ({ cls := "PennyMoreModel", name := "lays", desc := "()V" } : Jvm.MethodName)) ∈ mm_G := mm_gi_6 (i := 221) rfl rfl
theorem gw_830 : (Jvm.Cond.selects "PennyMoreModel" ({ cls := "PennyMoreModel", name := "lays", desc := "()V" } : Jvm.MethodName) ({ cls := "PennyMoreModel", name := "lays", desc := "()V" } : Jvm.MethodName)) ∈ mm_G := mm_gi (i := 54) rfl rfl
theorem gw_831 : (Jvm.Cond.methodLink "PennyMoreModel" (320 : Nat) ({ cls := "PennyMoreModel", name := "allGained", desc := "()I" } : Jvm.MethodName)) ∈ mm_G := mm_gi_6 (i := 227) rfl rfl
theorem gw_832 : (Jvm.Cond.instanceMethod ({ cls := "PennyMoreModel", name := "allGained", desc := "()I" } : Jvm.MethodName)) ∈ mm_G := mm_gi_6 (i := 229) rfl rfl
theorem gw_833 : (Jvm.Cond.selects "PennyMoreModel" ({ cls := "PennyMoreModel", name := "allGained", desc := "()I" } : Jvm.MethodName) ({ cls := "PennyMoreModel", name := "allGained", desc := "()I" } : Jvm.MethodName)) ∈ mm_G := mm_gi (i := 55) rfl rfl
theorem gw_834 : (Jvm.Cond.methodLink "PennyMoreModel" (326 : Nat) ({ cls := "PennyMoreModel", name := "stands", desc := "(I)V" } : Jvm.MethodName)) ∈ mm_G := mm_gi_6 (i := 238) rfl rfl
theorem gw_835 : (Jvm.Cond.instanceMethod ({ cls := "PennyMoreModel", name := "stands", desc := "(I)V" } : Jvm.MethodName)) ∈ mm_G := mm_gi_7 (i := 0) rfl rfl
theorem gw_836 : (Jvm.Cond.selects "PennyMoreModel" ({ cls := "PennyMoreModel", name := "stands", desc := "(I)V" } : Jvm.MethodName) ({ cls := "PennyMoreModel", name := "stands", desc := "(I)V" } : Jvm.MethodName)) ∈ mm_G := mm_gi (i := 56) rfl rfl
theorem gw_837 : (Jvm.Cond.methodLink "PennyMoreModel" (336 : Nat) ({ cls := "PennyMoreModel", name := "othersGain", desc := "(IZ)I" } : Jvm.MethodName)) ∈ mm_G := mm_gi_7 (i := 27) rfl rfl
theorem gw_838 : (Jvm.Cond.instanceMethod ({ cls := "PennyMoreModel", name := "othersGain", desc := "(IZ)I" } : Jvm.MethodName)) ∈ mm_G := mm_gi_7 (i := 29) rfl rfl
theorem gw_839 : (Jvm.Cond.selects "PennyMoreModel" ({ cls := "PennyMoreModel", name := "othersGain", desc := "(IZ)I" } : Jvm.MethodName) ({ cls := "PennyMoreModel", name := "othersGain", desc := "(IZ)I" } : Jvm.MethodName)) ∈ mm_G := mm_gi (i := 57) rfl rfl
theorem gw_840 : (Jvm.Cond.methodLink "PennyMoreModel" (347 : Nat) ({ cls := "PennyMoreModel", name := "keepsAt", desc := "(I)V" } : Jvm.MethodName)) ∈ mm_G := mm_gi_7 (i := 44) rfl rfl
theorem gw_841 : (Jvm.Cond.instanceMethod ({ cls := "PennyMoreModel", name := "keepsAt", desc := "(I)V" } : Jvm.MethodName)) ∈ mm_G := mm_gi_7 (i := 46) rfl rfl
theorem gw_842 : (Jvm.Cond.selects "PennyMoreModel" ({ cls := "PennyMoreModel", name := "keepsAt", desc := "(I)V" } : Jvm.MethodName) ({ cls := "PennyMoreModel", name := "keepsAt", desc := "(I)V" } : Jvm.MethodName)) ∈ mm_G := mm_gi (i := 59) rfl rfl
theorem gw_843 : (Jvm.Cond.methodLink "PennyMoreModel" (350 : Nat) ({ cls := "PennyMoreModel", name := "slipsOn", desc := "(IIJ)V" } : Jvm.MethodName)) ∈ mm_G := mm_gi_7 (i := 40) rfl rfl
theorem gw_844 : (Jvm.Cond.instanceMethod ({ cls := "PennyMoreModel", name := "slipsOn", desc := "(IIJ)V" } : Jvm.MethodName)) ∈ mm_G := mm_gi_7 (i := 42) rfl rfl
theorem gw_845 : (Jvm.Cond.selects "PennyMoreModel" ({ cls := "PennyMoreModel", name := "slipsOn", desc := "(IIJ)V" } : Jvm.MethodName) ({ cls := "PennyMoreModel", name := "slipsOn", desc := "(IIJ)V" } : Jvm.MethodName)) ∈ mm_G := mm_gi (i := 58) rfl rfl
theorem gw_846 : (Jvm.Cond.methodLink "PennyMoreModel" (360 : Nat) ({ cls := "PennyMoreModel", name := "laysAt", desc := "(I)V" } : Jvm.MethodName)) ∈ mm_G := mm_gi_7 (i := 49) rfl rfl
theorem gw_847 : (Jvm.Cond.instanceMethod ({ cls := "PennyMoreModel", name := "laysAt", desc := "(I)V" } : Jvm.MethodName)) ∈ mm_G := mm_gi_7 (i := 51) rfl rfl
theorem gw_848 : (Jvm.Cond.selects "PennyMoreModel" ({ cls := "PennyMoreModel", name := "laysAt", desc := "(I)V" } : Jvm.MethodName) ({ cls := "PennyMoreModel", name := "laysAt", desc := "(I)V" } : Jvm.MethodName)) ∈ mm_G := mm_gi (i := 60) rfl rfl
theorem gw_849 : (Jvm.Cond.methodLink "PennyMoreModel" (368 : Nat) ({ cls := "PennyMoreModel", name := "isTape", desc := "(I)Z" } : Jvm.MethodName)) ∈ mm_G := mm_gi_7 (i := 65) rfl rfl
theorem gw_850 : (Jvm.Cond.instanceMethod ({ cls := "PennyMoreModel", name := "isTape", desc := "(I)Z" } : Jvm.MethodName)) ∈ mm_G := mm_gi_7 (i := 67) rfl rfl
theorem gw_851 : (Jvm.Cond.selects "PennyMoreModel" ({ cls := "PennyMoreModel", name := "isTape", desc := "(I)Z" } : Jvm.MethodName) ({ cls := "PennyMoreModel", name := "isTape", desc := "(I)Z" } : Jvm.MethodName)) ∈ mm_G := mm_gi (i := 61) rfl rfl
theorem gw_852 : (Jvm.Cond.methodLink "PennyMoreModel" (389 : Nat) ({ cls := "PennyMoreModel", name := "runs", desc := "(I)V" } : Jvm.MethodName)) ∈ mm_G := mm_gi_7 (i := 85) rfl rfl
theorem gw_853 : (Jvm.Cond.instanceMethod ({ cls := "PennyMoreModel", name := "runs", desc := "(I)V" } : Jvm.MethodName)) ∈ mm_G := mm_gi_7 (i := 87) rfl rfl
theorem gw_854 : (Jvm.Cond.selects "PennyMoreModel" ({ cls := "PennyMoreModel", name := "runs", desc := "(I)V" } : Jvm.MethodName) ({ cls := "PennyMoreModel", name := "runs", desc := "(I)V" } : Jvm.MethodName)) ∈ mm_G := mm_gi (i := 63) rfl rfl
theorem gw_855 : (Jvm.Cond.methodLink "PennyMoreModel" (395 : Nat) ({ cls := "PennyMoreModel", name := "bids", desc := "(II)I" } : Jvm.MethodName)) ∈ mm_G := mm_gi_7 (i := 81) rfl rfl
theorem gw_856 : (Jvm.Cond.instanceMethod ({ cls := "PennyMoreModel", name := "bids", desc := "(II)I" } : Jvm.MethodName)) ∈ mm_G := mm_gi_7 (i := 83) rfl rfl
theorem gw_857 : (Jvm.Cond.selects "PennyMoreModel" ({ cls := "PennyMoreModel", name := "bids", desc := "(II)I" } : Jvm.MethodName) ({ cls := "PennyMoreModel", name := "bids", desc := "(II)I" } : Jvm.MethodName)) ∈ mm_G := mm_gi (i := 62) rfl rfl
theorem gw_858 : (Jvm.Cond.methodLink "PennyMoreModel" (401 : Nat) ({ cls := "PennyMoreModel", name := "waitsIn", desc := "(II)I" } : Jvm.MethodName)) ∈ mm_G := mm_gi_7 (i := 92) rfl rfl
theorem gw_859 : (Jvm.Cond.instanceMethod ({ cls := "PennyMoreModel", name := "waitsIn", desc := "(II)I" } : Jvm.MethodName)) ∈ mm_G := mm_gi_7 (i := 94) rfl rfl
theorem gw_860 : (Jvm.Cond.selects "PennyMoreModel" ({ cls := "PennyMoreModel", name := "waitsIn", desc := "(II)I" } : Jvm.MethodName) ({ cls := "PennyMoreModel", name := "waitsIn", desc := "(II)I" } : Jvm.MethodName)) ∈ mm_G := mm_gi (i := 64) rfl rfl
theorem gw_861 : (Jvm.Cond.methodLink "PennyMoreModel" (404 : Nat) ({ cls := "PennyMoreModel", name := "tellsIn", desc := "(II)I" } : Jvm.MethodName)) ∈ mm_G := mm_gi_7 (i := 96) rfl rfl
theorem gw_862 : (Jvm.Cond.instanceMethod ({ cls := "PennyMoreModel", name := "tellsIn", desc := "(II)I" } : Jvm.MethodName)) ∈ mm_G := mm_gi_7 (i := 98) rfl rfl
theorem gw_863 : (Jvm.Cond.selects "PennyMoreModel" ({ cls := "PennyMoreModel", name := "tellsIn", desc := "(II)I" } : Jvm.MethodName) ({ cls := "PennyMoreModel", name := "tellsIn", desc := "(II)I" } : Jvm.MethodName)) ∈ mm_G := mm_gi (i := 65) rfl rfl
theorem gw_864 : (Jvm.Cond.methodLink "java/lang/String" (335 : Nat) ({ cls := "java/lang/String", name := "coder", desc := "()B" } : Jvm.MethodName)) ∈ mm_G := mm_gi_3 (i := 11) rfl rfl
theorem gw_865 : (Jvm.Cond.instanceMethod ({ cls := "java/lang/String", name := "coder", desc := "()B" } : Jvm.MethodName)) ∈ mm_G := mm_gi_3 (i := 12) rfl rfl
theorem gw_866 : (Jvm.Cond.selects "java/lang/String" ({ cls := "java/lang/String", name := "coder", desc := "()B" } : Jvm.MethodName) ({ cls := "java/lang/String", name := "coder", desc := "()B" } : Jvm.MethodName)) ∈ mm_G := mm_gi_3 (i := 13) rfl rfl
theorem gw_867 : (Jvm.Cond.methodLink "java/lang/String" (492 : Nat) ({ cls := "java/lang/String", name := "isLatin1", desc := "()Z" } : Jvm.MethodName)) ∈ mm_G := mm_gi_3 (i := 21) rfl rfl
theorem gw_868 : (Jvm.Cond.instanceMethod ({ cls := "java/lang/String", name := "isLatin1", desc := "()Z" } : Jvm.MethodName)) ∈ mm_G := mm_gi_3 (i := 22) rfl rfl
theorem gw_869 : (Jvm.Cond.selects "java/lang/String" ({ cls := "java/lang/String", name := "isLatin1", desc := "()Z" } : Jvm.MethodName) ({ cls := "java/lang/String", name := "isLatin1", desc := "()Z" } : Jvm.MethodName)) ∈ mm_G := mm_gi_3 (i := 23) rfl rfl
theorem gw_870 : (Jvm.Cond.methodLink "java/lang/String" (505 : Nat) ({ cls := "java/lang/String", name := "length", desc := "()I" } : Jvm.MethodName)) ∈ mm_G := mm_gi_3 (i := 85) rfl rfl
theorem gw_871 : (Jvm.Cond.methodLink "java/lang/String" (633 : Nat) ({ cls := "java/lang/String", name := "indexOf", desc := "(II)I" } : Jvm.MethodName)) ∈ mm_G := mm_gi_3 (i := 81) rfl rfl
theorem gw_872 : (Jvm.Cond.instanceMethod ({ cls := "java/lang/String", name := "indexOf", desc := "(II)I" } : Jvm.MethodName)) ∈ mm_G := mm_gi_3 (i := 82) rfl rfl
theorem gw_873 : (Jvm.Cond.selects "java/lang/String" ({ cls := "java/lang/String", name := "indexOf", desc := "(II)I" } : Jvm.MethodName) ({ cls := "java/lang/String", name := "indexOf", desc := "(II)I" } : Jvm.MethodName)) ∈ mm_G := mm_gi_3 (i := 83) rfl rfl
theorem gw_874 : (Jvm.Cond.methodLink "PennyMoreLaw" (13 : Nat) ({ cls := "PennyMore", name := "buyer", desc := "(III)I" } : Jvm.MethodName)) ∈ mm_G := mm_gi_2 (i := 20) rfl rfl
theorem gw_875 : (Jvm.Cond.instanceMethod ({ cls := "PennyMore", name := "buyer", desc := "(III)I" } : Jvm.MethodName)) ∈ mm_G := mm_gi_2 (i := 21) rfl rfl
theorem gw_876 : (Jvm.Cond.selects "PennyMore" ({ cls := "PennyMore", name := "buyer", desc := "(III)I" } : Jvm.MethodName) ({ cls := "PennyMore", name := "buyer", desc := "(III)I" } : Jvm.MethodName)) ∈ mm_G := mm_gi_2 (i := 22) rfl rfl
theorem gw_877 : (Jvm.Cond.methodLink "PennyMoreLaw" (17 : Nat) ({ cls := "PennyMoreModel", name := "buyer", desc := "(III)I" } : Jvm.MethodName)) ∈ mm_G := mm_gi_6 (i := 36) rfl rfl
theorem gw_878 : (Jvm.Cond.instanceMethod ({ cls := "PennyMoreModel", name := "buyer", desc := "(III)I" } : Jvm.MethodName)) ∈ mm_G := mm_gi_6 (i := 37) rfl rfl
theorem gw_879 : (Jvm.Cond.selects "PennyMoreModel" ({ cls := "PennyMoreModel", name := "buyer", desc := "(III)I" } : Jvm.MethodName) ({ cls := "PennyMoreModel", name := "buyer", desc := "(III)I" } : Jvm.MethodName)) ∈ mm_G := mm_gi_6 (i := 38) rfl rfl
theorem gw_880 : (Jvm.Cond.methodLink "PennyMoreLaw" (18 : Nat) ({ cls := "PennyMore", name := "of", desc := "(II)I" } : Jvm.MethodName)) ∈ mm_G := mm_gi_2 (i := 143) rfl rfl
theorem gw_881 : (Jvm.Cond.instanceMethod ({ cls := "PennyMore", name := "of", desc := "(II)I" } : Jvm.MethodName)) ∈ mm_G := mm_gi_2 (i := 144) rfl rfl
theorem gw_882 : (Jvm.Cond.selects "PennyMore" ({ cls := "PennyMore", name := "of", desc := "(II)I" } : Jvm.MethodName) ({ cls := "PennyMore", name := "of", desc := "(II)I" } : Jvm.MethodName)) ∈ mm_G := mm_gi_2 (i := 145) rfl rfl
theorem gw_883 : (Jvm.Cond.methodLink "PennyMoreLaw" (22 : Nat) ({ cls := "PennyMoreModel", name := "of", desc := "(II)I" } : Jvm.MethodName)) ∈ mm_G := mm_gi_6 (i := 43) rfl rfl
theorem gw_884 : (Jvm.Cond.instanceMethod ({ cls := "PennyMoreModel", name := "of", desc := "(II)I" } : Jvm.MethodName)) ∈ mm_G := mm_gi_6 (i := 44) rfl rfl
theorem gw_885 : (Jvm.Cond.selects "PennyMoreModel" ({ cls := "PennyMoreModel", name := "of", desc := "(II)I" } : Jvm.MethodName) ({ cls := "PennyMoreModel", name := "of", desc := "(II)I" } : Jvm.MethodName)) ∈ mm_G := mm_gi_6 (i := 45) rfl rfl
theorem gw_886 : (Jvm.Cond.methodLink "PennyMoreLaw" (23 : Nat) ({ cls := "PennyMore", name := "gained", desc := "(I)I" } : Jvm.MethodName)) ∈ mm_G := mm_gi_2 (i := 182) rfl rfl
theorem gw_887 : (Jvm.Cond.instanceMethod ({ cls := "PennyMore", name := "gained", desc := "(I)I" } : Jvm.MethodName)) ∈ mm_G := mm_gi_2 (i := 183) rfl rfl
theorem gw_888 : (Jvm.Cond.selects "PennyMore" ({ cls := "PennyMore", name := "gained", desc := "(I)I" } : Jvm.MethodName) ({ cls := "PennyMore", name := "gained", desc := "(I)I" } : Jvm.MethodName)) ∈ mm_G := mm_gi_2 (i := 184) rfl rfl
theorem gw_889 : (Jvm.Cond.methodLink "PennyMoreLaw" (27 : Nat) ({ cls := "PennyMoreModel", name := "gained", desc := "(I)I" } : Jvm.MethodName)) ∈ mm_G := mm_gi_6 (i := 75) rfl rfl
theorem gw_890 : (Jvm.Cond.instanceMethod ({ cls := "PennyMoreModel", name := "gained", desc := "(I)I" } : Jvm.MethodName)) ∈ mm_G := mm_gi_6 (i := 76) rfl rfl
theorem gw_891 : (Jvm.Cond.selects "PennyMoreModel" ({ cls := "PennyMoreModel", name := "gained", desc := "(I)I" } : Jvm.MethodName) ({ cls := "PennyMoreModel", name := "gained", desc := "(I)I" } : Jvm.MethodName)) ∈ mm_G := mm_gi_6 (i := 77) rfl rfl
theorem gw_892 : (Jvm.Cond.methodLink "PennyMoreLaw" (28 : Nat) ({ cls := "PennyMore", name := "friend", desc := "(II)I" } : Jvm.MethodName)) ∈ mm_G := mm_gi_2 (i := 187) rfl rfl
theorem gw_893 : (Jvm.Cond.instanceMethod ({ cls := "PennyMore", name := "friend", desc := "(II)I" } : Jvm.MethodName)) ∈ mm_G := mm_gi_2 (i := 188) rfl rfl
theorem gw_894 : (Jvm.Cond.selects "PennyMore" ({ cls := "PennyMore", name := "friend", desc := "(II)I" } : Jvm.MethodName) ({ cls := "PennyMore", name := "friend", desc := "(II)I" } : Jvm.MethodName)) ∈ mm_G := mm_gi_2 (i := 189) rfl rfl
theorem gw_895 : (Jvm.Cond.methodLink "PennyMoreLaw" (31 : Nat) ({ cls := "PennyMoreModel", name := "friend", desc := "(II)I" } : Jvm.MethodName)) ∈ mm_G := mm_gi_6 (i := 80) rfl rfl
theorem gw_896 : (Jvm.Cond.instanceMethod ({ cls := "PennyMoreModel", name := "friend", desc := "(II)I" } : Jvm.MethodName)) ∈ mm_G := mm_gi_6 (i := 81) rfl rfl
theorem gw_897 : (Jvm.Cond.selects "PennyMoreModel" ({ cls := "PennyMoreModel", name := "friend", desc := "(II)I" } : Jvm.MethodName) ({ cls := "PennyMoreModel", name := "friend", desc := "(II)I" } : Jvm.MethodName)) ∈ mm_G := mm_gi_6 (i := 82) rfl rfl
theorem gw_898 : (Jvm.Cond.methodLink "PennyMoreLaw" (32 : Nat) ({ cls := "PennyMore", name := "row", desc := "(III)I" } : Jvm.MethodName)) ∈ mm_G := mm_gi_2 (i := 191) rfl rfl
theorem gw_899 : (Jvm.Cond.instanceMethod ({ cls := "PennyMore", name := "row", desc := "(III)I" } : Jvm.MethodName)) ∈ mm_G := mm_gi_2 (i := 192) rfl rfl
theorem gw_900 : (Jvm.Cond.selects "PennyMore" ({ cls := "PennyMore", name := "row", desc := "(III)I" } : Jvm.MethodName) ({ cls := "PennyMore", name := "row", desc := "(III)I" } : Jvm.MethodName)) ∈ mm_G := mm_gi_2 (i := 193) rfl rfl
theorem gw_901 : (Jvm.Cond.methodLink "PennyMoreLaw" (35 : Nat) ({ cls := "PennyMoreModel", name := "row", desc := "(III)I" } : Jvm.MethodName)) ∈ mm_G := mm_gi_6 (i := 84) rfl rfl
theorem gw_902 : (Jvm.Cond.instanceMethod ({ cls := "PennyMoreModel", name := "row", desc := "(III)I" } : Jvm.MethodName)) ∈ mm_G := mm_gi_6 (i := 85) rfl rfl
theorem gw_903 : (Jvm.Cond.selects "PennyMoreModel" ({ cls := "PennyMoreModel", name := "row", desc := "(III)I" } : Jvm.MethodName) ({ cls := "PennyMoreModel", name := "row", desc := "(III)I" } : Jvm.MethodName)) ∈ mm_G := mm_gi_6 (i := 86) rfl rfl
theorem gw_904 : (Jvm.Cond.methodLink "PennyMoreLaw" (36 : Nat) ({ cls := "PennyMore", name := "back", desc := "(I)I" } : Jvm.MethodName)) ∈ mm_G := mm_gi_2 (i := 195) rfl rfl
theorem gw_905 : (Jvm.Cond.instanceMethod ({ cls := "PennyMore", name := "back", desc := "(I)I" } : Jvm.MethodName)) ∈ mm_G := mm_gi_2 (i := 196) rfl rfl
theorem gw_906 : (Jvm.Cond.selects "PennyMore" ({ cls := "PennyMore", name := "back", desc := "(I)I" } : Jvm.MethodName) ({ cls := "PennyMore", name := "back", desc := "(I)I" } : Jvm.MethodName)) ∈ mm_G := mm_gi_2 (i := 197) rfl rfl
theorem gw_907 : (Jvm.Cond.methodLink "PennyMoreLaw" (39 : Nat) ({ cls := "PennyMoreModel", name := "back", desc := "(I)I" } : Jvm.MethodName)) ∈ mm_G := mm_gi_6 (i := 88) rfl rfl
theorem gw_908 : (Jvm.Cond.instanceMethod ({ cls := "PennyMoreModel", name := "back", desc := "(I)I" } : Jvm.MethodName)) ∈ mm_G := mm_gi_6 (i := 89) rfl rfl
theorem gw_909 : (Jvm.Cond.selects "PennyMoreModel" ({ cls := "PennyMoreModel", name := "back", desc := "(I)I" } : Jvm.MethodName) ({ cls := "PennyMoreModel", name := "back", desc := "(I)I" } : Jvm.MethodName)) ∈ mm_G := mm_gi_6 (i := 90) rfl rfl
theorem gw_910 : (Jvm.Cond.methodLink "PennyMoreLaw" (40 : Nat) ({ cls := "PennyMore", name := "set", desc := "(II)I" } : Jvm.MethodName)) ∈ mm_G := mm_gi_2 (i := 200) rfl rfl
theorem gw_911 : (Jvm.Cond.instanceMethod ({ cls := "PennyMore", name := "set", desc := "(II)I" } : Jvm.MethodName)) ∈ mm_G := mm_gi_2 (i := 201) rfl rfl
theorem gw_912 : (Jvm.Cond.selects "PennyMore" ({ cls := "PennyMore", name := "set", desc := "(II)I" } : Jvm.MethodName) ({ cls := "PennyMore", name := "set", desc := "(II)I" } : Jvm.MethodName)) ∈ mm_G := mm_gi_2 (i := 202) rfl rfl
theorem gw_913 : (Jvm.Cond.methodLink "PennyMoreLaw" (43 : Nat) ({ cls := "PennyMoreModel", name := "set", desc := "(II)I" } : Jvm.MethodName)) ∈ mm_G := mm_gi_6 (i := 92) rfl rfl
theorem gw_914 : (Jvm.Cond.instanceMethod ({ cls := "PennyMoreModel", name := "set", desc := "(II)I" } : Jvm.MethodName)) ∈ mm_G := mm_gi_6 (i := 93) rfl rfl
theorem gw_915 : (Jvm.Cond.selects "PennyMoreModel" ({ cls := "PennyMoreModel", name := "set", desc := "(II)I" } : Jvm.MethodName) ({ cls := "PennyMoreModel", name := "set", desc := "(II)I" } : Jvm.MethodName)) ∈ mm_G := mm_gi_6 (i := 94) rfl rfl
theorem gw_916 : (Jvm.Cond.methodLink "PennyMoreLaw" (44 : Nat) ({ cls := "PennyMore", name := "feed", desc := "(I)I" } : Jvm.MethodName)) ∈ mm_G := mm_gi_2 (i := 204) rfl rfl
theorem gw_917 : (Jvm.Cond.instanceMethod ({ cls := "PennyMore", name := "feed", desc := "(I)I" } : Jvm.MethodName)) ∈ mm_G := mm_gi_2 (i := 205) rfl rfl
theorem gw_918 : (Jvm.Cond.selects "PennyMore" ({ cls := "PennyMore", name := "feed", desc := "(I)I" } : Jvm.MethodName) ({ cls := "PennyMore", name := "feed", desc := "(I)I" } : Jvm.MethodName)) ∈ mm_G := mm_gi_2 (i := 206) rfl rfl
theorem gw_919 : (Jvm.Cond.methodLink "PennyMoreLaw" (47 : Nat) ({ cls := "PennyMoreModel", name := "feed", desc := "(I)I" } : Jvm.MethodName)) ∈ mm_G := mm_gi_6 (i := 96) rfl rfl
theorem gw_920 : (Jvm.Cond.instanceMethod ({ cls := "PennyMoreModel", name := "feed", desc := "(I)I" } : Jvm.MethodName)) ∈ mm_G := mm_gi_6 (i := 97) rfl rfl
theorem gw_921 : (Jvm.Cond.selects "PennyMoreModel" ({ cls := "PennyMoreModel", name := "feed", desc := "(I)I" } : Jvm.MethodName) ({ cls := "PennyMoreModel", name := "feed", desc := "(I)I" } : Jvm.MethodName)) ∈ mm_G := mm_gi_6 (i := 98) rfl rfl
theorem gw_922 : (Jvm.Cond.methodLink "PennyMoreLaw" (48 : Nat) ({ cls := "PennyMore", name := "shop", desc := "()I" } : Jvm.MethodName)) ∈ mm_G := mm_gi_2 (i := 212) rfl rfl
theorem gw_923 : (Jvm.Cond.instanceMethod ({ cls := "PennyMore", name := "shop", desc := "()I" } : Jvm.MethodName)) ∈ mm_G := mm_gi_2 (i := 213) rfl rfl
theorem gw_924 : (Jvm.Cond.selects "PennyMore" ({ cls := "PennyMore", name := "shop", desc := "()I" } : Jvm.MethodName) ({ cls := "PennyMore", name := "shop", desc := "()I" } : Jvm.MethodName)) ∈ mm_G := mm_gi_2 (i := 214) rfl rfl
theorem gw_925 : (Jvm.Cond.methodLink "PennyMoreLaw" (52 : Nat) ({ cls := "PennyMoreModel", name := "shop", desc := "()I" } : Jvm.MethodName)) ∈ mm_G := mm_gi_6 (i := 100) rfl rfl
theorem gw_926 : (Jvm.Cond.instanceMethod ({ cls := "PennyMoreModel", name := "shop", desc := "()I" } : Jvm.MethodName)) ∈ mm_G := mm_gi_6 (i := 101) rfl rfl
theorem gw_927 : (Jvm.Cond.selects "PennyMoreModel" ({ cls := "PennyMoreModel", name := "shop", desc := "()I" } : Jvm.MethodName) ({ cls := "PennyMoreModel", name := "shop", desc := "()I" } : Jvm.MethodName)) ∈ mm_G := mm_gi_6 (i := 102) rfl rfl
theorem gw_928 : (Jvm.Cond.methodLink "PennyMoreLaw" (53 : Nat) ({ cls := "PennyMore", name := "told", desc := "(I)I" } : Jvm.MethodName)) ∈ mm_G := mm_gi_3 (i := 160) rfl rfl
theorem gw_929 : (Jvm.Cond.instanceMethod ({ cls := "PennyMore", name := "told", desc := "(I)I" } : Jvm.MethodName)) ∈ mm_G := mm_gi_3 (i := 161) rfl rfl
theorem gw_930 : (Jvm.Cond.selects "PennyMore" ({ cls := "PennyMore", name := "told", desc := "(I)I" } : Jvm.MethodName) ({ cls := "PennyMore", name := "told", desc := "(I)I" } : Jvm.MethodName)) ∈ mm_G := mm_gi_3 (i := 162) rfl rfl
theorem gw_931 : (Jvm.Cond.methodLink "PennyMoreLaw" (56 : Nat) ({ cls := "PennyMoreModel", name := "told", desc := "(I)I" } : Jvm.MethodName)) ∈ mm_G := mm_gi_6 (i := 155) rfl rfl
theorem gw_932 : (Jvm.Cond.instanceMethod ({ cls := "PennyMoreModel", name := "told", desc := "(I)I" } : Jvm.MethodName)) ∈ mm_G := mm_gi_6 (i := 156) rfl rfl
theorem gw_933 : (Jvm.Cond.selects "PennyMoreModel" ({ cls := "PennyMoreModel", name := "told", desc := "(I)I" } : Jvm.MethodName) ({ cls := "PennyMoreModel", name := "told", desc := "(I)I" } : Jvm.MethodName)) ∈ mm_G := mm_gi_6 (i := 157) rfl rfl
theorem gw_934 : (Jvm.Cond.methodLink "PennyMoreLaw" (57 : Nat) ({ cls := "PennyMore", name := "would", desc := "(I)I" } : Jvm.MethodName)) ∈ mm_G := mm_gi_3 (i := 168) rfl rfl
theorem gw_935 : (Jvm.Cond.instanceMethod ({ cls := "PennyMore", name := "would", desc := "(I)I" } : Jvm.MethodName)) ∈ mm_G := mm_gi_3 (i := 169) rfl rfl
theorem gw_936 : (Jvm.Cond.selects "PennyMore" ({ cls := "PennyMore", name := "would", desc := "(I)I" } : Jvm.MethodName) ({ cls := "PennyMore", name := "would", desc := "(I)I" } : Jvm.MethodName)) ∈ mm_G := mm_gi_3 (i := 170) rfl rfl
theorem gw_937 : (Jvm.Cond.methodLink "PennyMoreLaw" (60 : Nat) ({ cls := "PennyMoreModel", name := "would", desc := "(I)I" } : Jvm.MethodName)) ∈ mm_G := mm_gi_6 (i := 163) rfl rfl
theorem gw_938 : (Jvm.Cond.instanceMethod ({ cls := "PennyMoreModel", name := "would", desc := "(I)I" } : Jvm.MethodName)) ∈ mm_G := mm_gi_6 (i := 164) rfl rfl
theorem gw_939 : (Jvm.Cond.selects "PennyMoreModel" ({ cls := "PennyMoreModel", name := "would", desc := "(I)I" } : Jvm.MethodName) ({ cls := "PennyMoreModel", name := "would", desc := "(I)I" } : Jvm.MethodName)) ∈ mm_G := mm_gi_6 (i := 165) rfl rfl
theorem gw_940 : (Jvm.Cond.methodLink "PennyMoreLaw" (61 : Nat) ({ cls := "PennyMore", name := "go", desc := "()I" } : Jvm.MethodName)) ∈ mm_G := mm_gi_3 (i := 227) rfl rfl
theorem gw_941 : (Jvm.Cond.instanceMethod ({ cls := "PennyMore", name := "go", desc := "()I" } : Jvm.MethodName)) ∈ mm_G := mm_gi_3 (i := 228) rfl rfl
theorem gw_942 : (Jvm.Cond.selects "PennyMore" ({ cls := "PennyMore", name := "go", desc := "()I" } : Jvm.MethodName) ({ cls := "PennyMore", name := "go", desc := "()I" } : Jvm.MethodName)) ∈ mm_G := mm_gi_3 (i := 229) rfl rfl
theorem gw_943 : (Jvm.Cond.methodLink "PennyMoreLaw" (64 : Nat) ({ cls := "PennyMoreModel", name := "go", desc := "()I" } : Jvm.MethodName)) ∈ mm_G := mm_gi_6 (i := 195) rfl rfl
theorem gw_944 : (Jvm.Cond.instanceMethod ({ cls := "PennyMoreModel", name := "go", desc := "()I" } : Jvm.MethodName)) ∈ mm_G := mm_gi_6 (i := 196) rfl rfl
theorem gw_945 : (Jvm.Cond.selects "PennyMoreModel" ({ cls := "PennyMoreModel", name := "go", desc := "()I" } : Jvm.MethodName) ({ cls := "PennyMoreModel", name := "go", desc := "()I" } : Jvm.MethodName)) ∈ mm_G := mm_gi_6 (i := 197) rfl rfl
theorem gw_946 : (Jvm.Cond.methodLink "PennyMoreLaw" (65 : Nat) ({ cls := "PennyMore", name := "run", desc := "(I)I" } : Jvm.MethodName)) ∈ mm_G := mm_gi_4 (i := 6) rfl rfl
theorem gw_947 : (Jvm.Cond.instanceMethod ({ cls := "PennyMore", name := "run", desc := "(I)I" } : Jvm.MethodName)) ∈ mm_G := mm_gi_4 (i := 7) rfl rfl
theorem gw_948 : (Jvm.Cond.selects "PennyMore" ({ cls := "PennyMore", name := "run", desc := "(I)I" } : Jvm.MethodName) ({ cls := "PennyMore", name := "run", desc := "(I)I" } : Jvm.MethodName)) ∈ mm_G := mm_gi_4 (i := 8) rfl rfl
theorem gw_949 : (Jvm.Cond.methodLink "PennyMoreLaw" (68 : Nat) ({ cls := "PennyMoreModel", name := "run", desc := "(I)I" } : Jvm.MethodName)) ∈ mm_G := mm_gi_6 (i := 207) rfl rfl
theorem gw_950 : (Jvm.Cond.instanceMethod ({ cls := "PennyMoreModel", name := "run", desc := "(I)I" } : Jvm.MethodName)) ∈ mm_G := mm_gi_6 (i := 208) rfl rfl
theorem gw_951 : (Jvm.Cond.selects "PennyMoreModel" ({ cls := "PennyMoreModel", name := "run", desc := "(I)I" } : Jvm.MethodName) ({ cls := "PennyMoreModel", name := "run", desc := "(I)I" } : Jvm.MethodName)) ∈ mm_G := mm_gi_6 (i := 209) rfl rfl
theorem gw_952 : (Jvm.Cond.methodLink "PennyMoreLaw" (69 : Nat) ({ cls := "PennyMore", name := "first", desc := "(I)I" } : Jvm.MethodName)) ∈ mm_G := mm_gi_4 (i := 24) rfl rfl
theorem gw_953 : (Jvm.Cond.instanceMethod ({ cls := "PennyMore", name := "first", desc := "(I)I" } : Jvm.MethodName)) ∈ mm_G := mm_gi_4 (i := 25) rfl rfl
theorem gw_954 : (Jvm.Cond.selects "PennyMore" ({ cls := "PennyMore", name := "first", desc := "(I)I" } : Jvm.MethodName) ({ cls := "PennyMore", name := "first", desc := "(I)I" } : Jvm.MethodName)) ∈ mm_G := mm_gi_4 (i := 26) rfl rfl
theorem gw_955 : (Jvm.Cond.methodLink "PennyMoreLaw" (72 : Nat) ({ cls := "PennyMoreModel", name := "first", desc := "(I)I" } : Jvm.MethodName)) ∈ mm_G := mm_gi_6 (i := 223) rfl rfl
theorem gw_956 : (Jvm.Cond.instanceMethod ({ cls := "PennyMoreModel", name := "first", desc := "(I)I" } : Jvm.MethodName)) ∈ mm_G := mm_gi_6 (i := 224) rfl rfl
theorem gw_957 : (Jvm.Cond.selects "PennyMoreModel" ({ cls := "PennyMoreModel", name := "first", desc := "(I)I" } : Jvm.MethodName) ({ cls := "PennyMoreModel", name := "first", desc := "(I)I" } : Jvm.MethodName)) ∈ mm_G := mm_gi_6 (i := 225) rfl rfl
theorem gw_958 : (Jvm.Cond.methodLink "PennyMoreLaw" (73 : Nat) ({ cls := "PennyMore", name := "order", desc := "(II)I" } : Jvm.MethodName)) ∈ mm_G := mm_gi_4 (i := 38) rfl rfl
theorem gw_959 : (Jvm.Cond.instanceMethod ({ cls := "PennyMore", name := "order", desc := "(II)I" } : Jvm.MethodName)) ∈ mm_G := mm_gi_4 (i := 39) rfl rfl
theorem gw_960 : (Jvm.Cond.selects "PennyMore" ({ cls := "PennyMore", name := "order", desc := "(II)I" } : Jvm.MethodName) ({ cls := "PennyMore", name := "order", desc := "(II)I" } : Jvm.MethodName)) ∈ mm_G := mm_gi_4 (i := 40) rfl rfl
theorem gw_961 : (Jvm.Cond.methodLink "PennyMoreLaw" (76 : Nat) ({ cls := "PennyMoreModel", name := "order", desc := "(II)I" } : Jvm.MethodName)) ∈ mm_G := mm_gi_6 (i := 231) rfl rfl
theorem gw_962 : (Jvm.Cond.instanceMethod ({ cls := "PennyMoreModel", name := "order", desc := "(II)I" } : Jvm.MethodName)) ∈ mm_G := mm_gi_6 (i := 232) rfl rfl
theorem gw_963 : (Jvm.Cond.selects "PennyMoreModel" ({ cls := "PennyMoreModel", name := "order", desc := "(II)I" } : Jvm.MethodName) ({ cls := "PennyMoreModel", name := "order", desc := "(II)I" } : Jvm.MethodName)) ∈ mm_G := mm_gi_6 (i := 233) rfl rfl
theorem gw_964 : (Jvm.Cond.methodLink "PennyMoreLaw" (77 : Nat) ({ cls := "PennyMore", name := "letBy", desc := "(I)I" } : Jvm.MethodName)) ∈ mm_G := mm_gi_4 (i := 63) rfl rfl
theorem gw_965 : (Jvm.Cond.instanceMethod ({ cls := "PennyMore", name := "letBy", desc := "(I)I" } : Jvm.MethodName)) ∈ mm_G := mm_gi_4 (i := 64) rfl rfl
theorem gw_966 : (Jvm.Cond.selects "PennyMore" ({ cls := "PennyMore", name := "letBy", desc := "(I)I" } : Jvm.MethodName) ({ cls := "PennyMore", name := "letBy", desc := "(I)I" } : Jvm.MethodName)) ∈ mm_G := mm_gi_4 (i := 65) rfl rfl
theorem gw_967 : (Jvm.Cond.methodLink "PennyMoreLaw" (80 : Nat) ({ cls := "PennyMoreModel", name := "letBy", desc := "(I)I" } : Jvm.MethodName)) ∈ mm_G := mm_gi_7 (i := 2) rfl rfl
theorem gw_968 : (Jvm.Cond.instanceMethod ({ cls := "PennyMoreModel", name := "letBy", desc := "(I)I" } : Jvm.MethodName)) ∈ mm_G := mm_gi_7 (i := 3) rfl rfl
theorem gw_969 : (Jvm.Cond.selects "PennyMoreModel" ({ cls := "PennyMoreModel", name := "letBy", desc := "(I)I" } : Jvm.MethodName) ({ cls := "PennyMoreModel", name := "letBy", desc := "(I)I" } : Jvm.MethodName)) ∈ mm_G := mm_gi_7 (i := 4) rfl rfl
theorem gw_970 : (Jvm.Cond.methodLink "PennyMoreLaw" (81 : Nat) ({ cls := "PennyMore", name := "lot", desc := "(I)J" } : Jvm.MethodName)) ∈ mm_G := mm_gi_4 (i := 71) rfl rfl
theorem gw_971 : (Jvm.Cond.instanceMethod ({ cls := "PennyMore", name := "lot", desc := "(I)J" } : Jvm.MethodName)) ∈ mm_G := mm_gi_4 (i := 72) rfl rfl
theorem gw_972 : (Jvm.Cond.selects "PennyMore" ({ cls := "PennyMore", name := "lot", desc := "(I)J" } : Jvm.MethodName) ({ cls := "PennyMore", name := "lot", desc := "(I)J" } : Jvm.MethodName)) ∈ mm_G := mm_gi_4 (i := 73) rfl rfl
theorem gw_973 : (Jvm.Cond.methodLink "PennyMoreLaw" (85 : Nat) ({ cls := "PennyMoreModel", name := "lot", desc := "(I)J" } : Jvm.MethodName)) ∈ mm_G := mm_gi_7 (i := 6) rfl rfl
theorem gw_974 : (Jvm.Cond.instanceMethod ({ cls := "PennyMoreModel", name := "lot", desc := "(I)J" } : Jvm.MethodName)) ∈ mm_G := mm_gi_7 (i := 7) rfl rfl
theorem gw_975 : (Jvm.Cond.selects "PennyMoreModel" ({ cls := "PennyMoreModel", name := "lot", desc := "(I)J" } : Jvm.MethodName) ({ cls := "PennyMoreModel", name := "lot", desc := "(I)J" } : Jvm.MethodName)) ∈ mm_G := mm_gi_7 (i := 8) rfl rfl
theorem gw_976 : (Jvm.Cond.methodLink "PennyMoreLaw" (86 : Nat) ({ cls := "PennyMore", name := "fee", desc := "()I" } : Jvm.MethodName)) ∈ mm_G := mm_gi_4 (i := 79) rfl rfl
theorem gw_977 : (Jvm.Cond.instanceMethod ({ cls := "PennyMore", name := "fee", desc := "()I" } : Jvm.MethodName)) ∈ mm_G := mm_gi_4 (i := 80) rfl rfl
theorem gw_978 : (Jvm.Cond.selects "PennyMore" ({ cls := "PennyMore", name := "fee", desc := "()I" } : Jvm.MethodName) ({ cls := "PennyMore", name := "fee", desc := "()I" } : Jvm.MethodName)) ∈ mm_G := mm_gi_4 (i := 81) rfl rfl
theorem gw_979 : (Jvm.Cond.methodLink "PennyMoreLaw" (89 : Nat) ({ cls := "PennyMoreModel", name := "fee", desc := "()I" } : Jvm.MethodName)) ∈ mm_G := mm_gi_7 (i := 14) rfl rfl
theorem gw_980 : (Jvm.Cond.instanceMethod ({ cls := "PennyMoreModel", name := "fee", desc := "()I" } : Jvm.MethodName)) ∈ mm_G := mm_gi_7 (i := 15) rfl rfl
theorem gw_981 : (Jvm.Cond.selects "PennyMoreModel" ({ cls := "PennyMoreModel", name := "fee", desc := "()I" } : Jvm.MethodName) ({ cls := "PennyMoreModel", name := "fee", desc := "()I" } : Jvm.MethodName)) ∈ mm_G := mm_gi_7 (i := 16) rfl rfl
theorem gw_982 : (Jvm.Cond.methodLink "PennyMoreLaw" (90 : Nat) ({ cls := "PennyMore", name := "onePrice", desc := "(I)I" } : Jvm.MethodName)) ∈ mm_G := mm_gi_4 (i := 87) rfl rfl
theorem gw_983 : (Jvm.Cond.instanceMethod ({ cls := "PennyMore", name := "onePrice", desc := "(I)I" } : Jvm.MethodName)) ∈ mm_G := mm_gi_4 (i := 88) rfl rfl
theorem gw_984 : (Jvm.Cond.selects "PennyMore" ({ cls := "PennyMore", name := "onePrice", desc := "(I)I" } : Jvm.MethodName) ({ cls := "PennyMore", name := "onePrice", desc := "(I)I" } : Jvm.MethodName)) ∈ mm_G := mm_gi_4 (i := 89) rfl rfl
theorem gw_985 : (Jvm.Cond.methodLink "PennyMoreLaw" (93 : Nat) ({ cls := "PennyMoreModel", name := "onePrice", desc := "(I)I" } : Jvm.MethodName)) ∈ mm_G := mm_gi_7 (i := 18) rfl rfl
theorem gw_986 : (Jvm.Cond.instanceMethod ({ cls := "PennyMoreModel", name := "onePrice", desc := "(I)I" } : Jvm.MethodName)) ∈ mm_G := mm_gi_7 (i := 19) rfl rfl
theorem gw_987 : (Jvm.Cond.selects "PennyMoreModel" ({ cls := "PennyMoreModel", name := "onePrice", desc := "(I)I" } : Jvm.MethodName) ({ cls := "PennyMoreModel", name := "onePrice", desc := "(I)I" } : Jvm.MethodName)) ∈ mm_G := mm_gi_7 (i := 20) rfl rfl
theorem gw_988 : (Jvm.Cond.methodLink "PennyMoreLaw" (94 : Nat) ({ cls := "PennyMore", name := "aunt", desc := "(I)I" } : Jvm.MethodName)) ∈ mm_G := mm_gi_4 (i := 96) rfl rfl
theorem gw_989 : (Jvm.Cond.instanceMethod ({ cls := "PennyMore", name := "aunt", desc := "(I)I" } : Jvm.MethodName)) ∈ mm_G := mm_gi_4 (i := 97) rfl rfl
theorem gw_990 : (Jvm.Cond.selects "PennyMore" ({ cls := "PennyMore", name := "aunt", desc := "(I)I" } : Jvm.MethodName) ({ cls := "PennyMore", name := "aunt", desc := "(I)I" } : Jvm.MethodName)) ∈ mm_G := mm_gi_4 (i := 98) rfl rfl
theorem gw_991 : (Jvm.Cond.methodLink "PennyMoreLaw" (97 : Nat) ({ cls := "PennyMoreModel", name := "aunt", desc := "(I)I" } : Jvm.MethodName)) ∈ mm_G := mm_gi_7 (i := 22) rfl rfl
theorem gw_992 : (Jvm.Cond.instanceMethod ({ cls := "PennyMoreModel", name := "aunt", desc := "(I)I" } : Jvm.MethodName)) ∈ mm_G := mm_gi_7 (i := 23) rfl rfl
theorem gw_993 : (Jvm.Cond.selects "PennyMoreModel" ({ cls := "PennyMoreModel", name := "aunt", desc := "(I)I" } : Jvm.MethodName) ({ cls := "PennyMoreModel", name := "aunt", desc := "(I)I" } : Jvm.MethodName)) ∈ mm_G := mm_gi_7 (i := 24) rfl rfl
theorem gw_994 : (Jvm.Cond.methodLink "PennyMoreLaw" (98 : Nat) ({ cls := "PennyMore", name := "slips", desc := "(I)I" } : Jvm.MethodName)) ∈ mm_G := mm_gi_4 (i := 102) rfl rfl
theorem gw_995 : (Jvm.Cond.instanceMethod ({ cls := "PennyMore", name := "slips", desc := "(I)I" } : Jvm.MethodName)) ∈ mm_G := mm_gi_4 (i := 103) rfl rfl
theorem gw_996 : (Jvm.Cond.selects "PennyMore" ({ cls := "PennyMore", name := "slips", desc := "(I)I" } : Jvm.MethodName) ({ cls := "PennyMore", name := "slips", desc := "(I)I" } : Jvm.MethodName)) ∈ mm_G := mm_gi_4 (i := 104) rfl rfl
theorem gw_997 : (Jvm.Cond.methodLink "PennyMoreLaw" (101 : Nat) ({ cls := "PennyMoreModel", name := "slips", desc := "(I)I" } : Jvm.MethodName)) ∈ mm_G := mm_gi_7 (i := 31) rfl rfl
theorem gw_998 : (Jvm.Cond.instanceMethod ({ cls := "PennyMoreModel", name := "slips", desc := "(I)I" } : Jvm.MethodName)) ∈ mm_G := mm_gi_7 (i := 32) rfl rfl
theorem gw_999 : (Jvm.Cond.selects "PennyMoreModel" ({ cls := "PennyMoreModel", name := "slips", desc := "(I)I" } : Jvm.MethodName) ({ cls := "PennyMoreModel", name := "slips", desc := "(I)I" } : Jvm.MethodName)) ∈ mm_G := mm_gi_7 (i := 33) rfl rfl
theorem gw_1000 : (Jvm.Cond.methodLink "PennyMoreLaw" (102 : Nat) ({ cls := "PennyMore", name := "sure", desc := "(II)J" } : Jvm.MethodName)) ∈ mm_G := mm_gi_4 (i := 106) rfl rfl
theorem gw_1001 : (Jvm.Cond.instanceMethod ({ cls := "PennyMore", name := "sure", desc := "(II)J" } : Jvm.MethodName)) ∈ mm_G := mm_gi_4 (i := 107) rfl rfl
theorem gw_1002 : (Jvm.Cond.selects "PennyMore" ({ cls := "PennyMore", name := "sure", desc := "(II)J" } : Jvm.MethodName) ({ cls := "PennyMore", name := "sure", desc := "(II)J" } : Jvm.MethodName)) ∈ mm_G := mm_gi_4 (i := 108) rfl rfl
theorem gw_1003 : (Jvm.Cond.methodLink "PennyMoreLaw" (106 : Nat) ({ cls := "PennyMoreModel", name := "sure", desc := "(II)J" } : Jvm.MethodName)) ∈ mm_G := mm_gi_7 (i := 35) rfl rfl
theorem gw_1004 : (Jvm.Cond.instanceMethod ({ cls := "PennyMoreModel", name := "sure", desc := "(II)J" } : Jvm.MethodName)) ∈ mm_G := mm_gi_7 (i := 36) rfl rfl
theorem gw_1005 : (Jvm.Cond.selects "PennyMoreModel" ({ cls := "PennyMoreModel", name := "sure", desc := "(II)J" } : Jvm.MethodName) ({ cls := "PennyMoreModel", name := "sure", desc := "(II)J" } : Jvm.MethodName)) ∈ mm_G := mm_gi_7 (i := 37) rfl rfl
theorem gw_1006 : (Jvm.Cond.methodLink "PennyMoreLaw" (107 : Nat) ({ cls := "PennyMore", name := "film", desc := "(I)I" } : Jvm.MethodName)) ∈ mm_G := mm_gi_4 (i := 118) rfl rfl
theorem gw_1007 : (Jvm.Cond.instanceMethod ({ cls := "PennyMore", name := "film", desc := "(I)I" } : Jvm.MethodName)) ∈ mm_G := mm_gi_4 (i := 119) rfl rfl
theorem gw_1008 : (Jvm.Cond.selects "PennyMore" ({ cls := "PennyMore", name := "film", desc := "(I)I" } : Jvm.MethodName) ({ cls := "PennyMore", name := "film", desc := "(I)I" } : Jvm.MethodName)) ∈ mm_G := mm_gi_4 (i := 120) rfl rfl
theorem gw_1009 : (Jvm.Cond.methodLink "PennyMoreLaw" (110 : Nat) ({ cls := "PennyMoreModel", name := "film", desc := "(I)I" } : Jvm.MethodName)) ∈ mm_G := mm_gi_7 (i := 53) rfl rfl
theorem gw_1010 : (Jvm.Cond.instanceMethod ({ cls := "PennyMoreModel", name := "film", desc := "(I)I" } : Jvm.MethodName)) ∈ mm_G := mm_gi_7 (i := 54) rfl rfl
theorem gw_1011 : (Jvm.Cond.selects "PennyMoreModel" ({ cls := "PennyMoreModel", name := "film", desc := "(I)I" } : Jvm.MethodName) ({ cls := "PennyMoreModel", name := "film", desc := "(I)I" } : Jvm.MethodName)) ∈ mm_G := mm_gi_7 (i := 55) rfl rfl
theorem gw_1012 : (Jvm.Cond.methodLink "PennyMoreLaw" (111 : Nat) ({ cls := "PennyMore", name := "off", desc := "()I" } : Jvm.MethodName)) ∈ mm_G := mm_gi_4 (i := 122) rfl rfl
theorem gw_1013 : (Jvm.Cond.instanceMethod ({ cls := "PennyMore", name := "off", desc := "()I" } : Jvm.MethodName)) ∈ mm_G := mm_gi_4 (i := 123) rfl rfl
theorem gw_1014 : (Jvm.Cond.selects "PennyMore" ({ cls := "PennyMore", name := "off", desc := "()I" } : Jvm.MethodName) ({ cls := "PennyMore", name := "off", desc := "()I" } : Jvm.MethodName)) ∈ mm_G := mm_gi_4 (i := 124) rfl rfl
theorem gw_1015 : (Jvm.Cond.methodLink "PennyMoreLaw" (114 : Nat) ({ cls := "PennyMoreModel", name := "off", desc := "()I" } : Jvm.MethodName)) ∈ mm_G := mm_gi_7 (i := 57) rfl rfl
theorem gw_1016 : (Jvm.Cond.instanceMethod ({ cls := "PennyMoreModel", name := "off", desc := "()I" } : Jvm.MethodName)) ∈ mm_G := mm_gi_7 (i := 58) rfl rfl
theorem gw_1017 : (Jvm.Cond.selects "PennyMoreModel" ({ cls := "PennyMoreModel", name := "off", desc := "()I" } : Jvm.MethodName) ({ cls := "PennyMoreModel", name := "off", desc := "()I" } : Jvm.MethodName)) ∈ mm_G := mm_gi_7 (i := 59) rfl rfl
theorem gw_1018 : (Jvm.Cond.methodLink "PennyMoreLaw" (115 : Nat) ({ cls := "PennyMore", name := "judge", desc := "(II)I" } : Jvm.MethodName)) ∈ mm_G := mm_gi_4 (i := 126) rfl rfl
theorem gw_1019 : (Jvm.Cond.instanceMethod ({ cls := "PennyMore", name := "judge", desc := "(II)I" } : Jvm.MethodName)) ∈ mm_G := mm_gi_4 (i := 127) rfl rfl
theorem gw_1020 : (Jvm.Cond.selects "PennyMore" ({ cls := "PennyMore", name := "judge", desc := "(II)I" } : Jvm.MethodName) ({ cls := "PennyMore", name := "judge", desc := "(II)I" } : Jvm.MethodName)) ∈ mm_G := mm_gi_4 (i := 128) rfl rfl
theorem gw_1021 : (Jvm.Cond.methodLink "PennyMoreLaw" (118 : Nat) ({ cls := "PennyMoreModel", name := "judge", desc := "(II)I" } : Jvm.MethodName)) ∈ mm_G := mm_gi_7 (i := 61) rfl rfl
theorem gw_1022 : (Jvm.Cond.instanceMethod ({ cls := "PennyMoreModel", name := "judge", desc := "(II)I" } : Jvm.MethodName)) ∈ mm_G := mm_gi_7 (i := 62) rfl rfl
theorem gw_1023 : (Jvm.Cond.selects "PennyMoreModel" ({ cls := "PennyMoreModel", name := "judge", desc := "(II)I" } : Jvm.MethodName) ({ cls := "PennyMoreModel", name := "judge", desc := "(II)I" } : Jvm.MethodName)) ∈ mm_G := mm_gi_7 (i := 63) rfl rfl
theorem gw_1024 : (Jvm.Cond.methodLink "PennyMoreLaw" (119 : Nat) ({ cls := "PennyMore", name := "image", desc := "()I" } : Jvm.MethodName)) ∈ mm_G := mm_gi_4 (i := 137) rfl rfl
theorem gw_1025 : (Jvm.Cond.instanceMethod ({ cls := "PennyMore", name := "image", desc := "()I" } : Jvm.MethodName)) ∈ mm_G := mm_gi_4 (i := 138) rfl rfl
theorem gw_1026 : (Jvm.Cond.selects "PennyMore" ({ cls := "PennyMore", name := "image", desc := "()I" } : Jvm.MethodName) ({ cls := "PennyMore", name := "image", desc := "()I" } : Jvm.MethodName)) ∈ mm_G := mm_gi_4 (i := 139) rfl rfl
theorem gw_1027 : (Jvm.Cond.methodLink "PennyMoreLaw" (122 : Nat) ({ cls := "PennyMoreModel", name := "image", desc := "()I" } : Jvm.MethodName)) ∈ mm_G := mm_gi_7 (i := 69) rfl rfl
theorem gw_1028 : (Jvm.Cond.instanceMethod ({ cls := "PennyMoreModel", name := "image", desc := "()I" } : Jvm.MethodName)) ∈ mm_G := mm_gi_7 (i := 70) rfl rfl
theorem gw_1029 : (Jvm.Cond.selects "PennyMoreModel" ({ cls := "PennyMoreModel", name := "image", desc := "()I" } : Jvm.MethodName) ({ cls := "PennyMoreModel", name := "image", desc := "()I" } : Jvm.MethodName)) ∈ mm_G := mm_gi_7 (i := 71) rfl rfl
theorem gw_1030 : (Jvm.Cond.methodLink "PennyMoreLaw" (123 : Nat) ({ cls := "PennyMore", name := "undo", desc := "()I" } : Jvm.MethodName)) ∈ mm_G := mm_gi_4 (i := 141) rfl rfl
theorem gw_1031 : (Jvm.Cond.instanceMethod ({ cls := "PennyMore", name := "undo", desc := "()I" } : Jvm.MethodName)) ∈ mm_G := mm_gi_4 (i := 142) rfl rfl
theorem gw_1032 : (Jvm.Cond.selects "PennyMore" ({ cls := "PennyMore", name := "undo", desc := "()I" } : Jvm.MethodName) ({ cls := "PennyMore", name := "undo", desc := "()I" } : Jvm.MethodName)) ∈ mm_G := mm_gi_4 (i := 143) rfl rfl
theorem gw_1033 : (Jvm.Cond.methodLink "PennyMoreLaw" (126 : Nat) ({ cls := "PennyMoreModel", name := "undo", desc := "()I" } : Jvm.MethodName)) ∈ mm_G := mm_gi_7 (i := 73) rfl rfl
theorem gw_1034 : (Jvm.Cond.instanceMethod ({ cls := "PennyMoreModel", name := "undo", desc := "()I" } : Jvm.MethodName)) ∈ mm_G := mm_gi_7 (i := 74) rfl rfl
theorem gw_1035 : (Jvm.Cond.selects "PennyMoreModel" ({ cls := "PennyMoreModel", name := "undo", desc := "()I" } : Jvm.MethodName) ({ cls := "PennyMoreModel", name := "undo", desc := "()I" } : Jvm.MethodName)) ∈ mm_G := mm_gi_7 (i := 75) rfl rfl
theorem gw_1036 : (Jvm.Cond.methodLink "PennyMoreLaw" (127 : Nat) ({ cls := "PennyMore", name := "act", desc := "(III)I" } : Jvm.MethodName)) ∈ mm_G := mm_gi_4 (i := 145) rfl rfl
theorem gw_1037 : (Jvm.Cond.instanceMethod ({ cls := "PennyMore", name := "act", desc := "(III)I" } : Jvm.MethodName)) ∈ mm_G := mm_gi_4 (i := 146) rfl rfl
theorem gw_1038 : (Jvm.Cond.selects "PennyMore" ({ cls := "PennyMore", name := "act", desc := "(III)I" } : Jvm.MethodName) ({ cls := "PennyMore", name := "act", desc := "(III)I" } : Jvm.MethodName)) ∈ mm_G := mm_gi_4 (i := 147) rfl rfl
theorem gw_1039 : (Jvm.Cond.methodLink "PennyMoreLaw" (130 : Nat) ({ cls := "PennyMoreModel", name := "act", desc := "(III)I" } : Jvm.MethodName)) ∈ mm_G := mm_gi_7 (i := 77) rfl rfl
theorem gw_1040 : (Jvm.Cond.instanceMethod ({ cls := "PennyMoreModel", name := "act", desc := "(III)I" } : Jvm.MethodName)) ∈ mm_G := mm_gi_7 (i := 78) rfl rfl
theorem gw_1041 : (Jvm.Cond.selects "PennyMoreModel" ({ cls := "PennyMoreModel", name := "act", desc := "(III)I" } : Jvm.MethodName) ({ cls := "PennyMoreModel", name := "act", desc := "(III)I" } : Jvm.MethodName)) ∈ mm_G := mm_gi_7 (i := 79) rfl rfl
theorem gw_1042 : (Jvm.Cond.methodLink "PennyMoreLaw" (131 : Nat) ({ cls := "PennyMore", name := "trace", desc := "(I)I" } : Jvm.MethodName)) ∈ mm_G := mm_gi_4 (i := 233) rfl rfl
theorem gw_1043 : (Jvm.Cond.instanceMethod ({ cls := "PennyMore", name := "trace", desc := "(I)I" } : Jvm.MethodName)) ∈ mm_G := mm_gi_4 (i := 234) rfl rfl
theorem gw_1044 : (Jvm.Cond.selects "PennyMore" ({ cls := "PennyMore", name := "trace", desc := "(I)I" } : Jvm.MethodName) ({ cls := "PennyMore", name := "trace", desc := "(I)I" } : Jvm.MethodName)) ∈ mm_G := mm_gi_4 (i := 235) rfl rfl
theorem gw_1045 : (Jvm.Cond.methodLink "PennyMoreLaw" (134 : Nat) ({ cls := "PennyMoreModel", name := "trace", desc := "(I)I" } : Jvm.MethodName)) ∈ mm_G := mm_gi_7 (i := 100) rfl rfl
theorem gw_1046 : (Jvm.Cond.instanceMethod ({ cls := "PennyMoreModel", name := "trace", desc := "(I)I" } : Jvm.MethodName)) ∈ mm_G := mm_gi_7 (i := 101) rfl rfl
theorem gw_1047 : (Jvm.Cond.selects "PennyMoreModel" ({ cls := "PennyMoreModel", name := "trace", desc := "(I)I" } : Jvm.MethodName) ({ cls := "PennyMoreModel", name := "trace", desc := "(I)I" } : Jvm.MethodName)) ∈ mm_G := mm_gi_7 (i := 102) rfl rfl
theorem gw_1048 : (Jvm.Cond.methodLink "PennyMoreLaw" (135 : Nat) ({ cls := "PennyMore", name := "taken", desc := "(II)I" } : Jvm.MethodName)) ∈ mm_G := mm_gi_4 (i := 237) rfl rfl
theorem gw_1049 : (Jvm.Cond.instanceMethod ({ cls := "PennyMore", name := "taken", desc := "(II)I" } : Jvm.MethodName)) ∈ mm_G := mm_gi_4 (i := 238) rfl rfl
end
section
theorem gw_1050 : (Jvm.Cond.selects "PennyMore" ({ cls := "PennyMore", name := "taken", desc := "(II)I" } : Jvm.MethodName) ({ cls := "PennyMore", name := "taken", desc := "(II)I" } : Jvm.MethodName)) ∈ mm_G := mm_gi_4 (i := 239) rfl rfl
theorem gw_1051 : (Jvm.Cond.methodLink "PennyMoreLaw" (138 : Nat) ({ cls := "PennyMoreModel", name := "taken", desc := "(II)I" } : Jvm.MethodName)) ∈ mm_G := mm_gi_7 (i := 104) rfl rfl
theorem gw_1052 : (Jvm.Cond.instanceMethod ({ cls := "PennyMoreModel", name := "taken", desc := "(II)I" } : Jvm.MethodName)) ∈ mm_G := mm_gi_7 (i := 105) rfl rfl
theorem gw_1053 : (Jvm.Cond.selects "PennyMoreModel" ({ cls := "PennyMoreModel", name := "taken", desc := "(II)I" } : Jvm.MethodName) ({ cls := "PennyMoreModel", name := "taken", desc := "(II)I" } : Jvm.MethodName)) ∈ mm_G := mm_gi_7 (i := 106) rfl rfl
theorem gw_1054 : (Jvm.Cond.methodLink "PennyMoreLaw" (139 : Nat) ({ cls := "PennyMore", name := "count", desc := "(I)I" } : Jvm.MethodName)) ∈ mm_G := mm_gi_5 (i := 4) rfl rfl
theorem gw_1055 : (Jvm.Cond.instanceMethod ({ cls := "PennyMore", name := "count", desc := "(I)I" } : Jvm.MethodName)) ∈ mm_G := mm_gi_5 (i := 5) rfl rfl
theorem gw_1056 : (Jvm.Cond.selects "PennyMore" ({ cls := "PennyMore", name := "count", desc := "(I)I" } : Jvm.MethodName) ({ cls := "PennyMore", name := "count", desc := "(I)I" } : Jvm.MethodName)) ∈ mm_G := mm_gi_5 (i := 6) rfl rfl
theorem gw_1057 : (Jvm.Cond.methodLink "PennyMoreLaw" (142 : Nat) ({ cls := "PennyMoreModel", name := "count", desc := "(I)I" } : Jvm.MethodName)) ∈ mm_G := mm_gi_7 (i := 108) rfl rfl
theorem gw_1058 : (Jvm.Cond.instanceMethod ({ cls := "PennyMoreModel", name := "count", desc := "(I)I" } : Jvm.MethodName)) ∈ mm_G := mm_gi_7 (i := 109) rfl rfl
theorem gw_1059 : (Jvm.Cond.selects "PennyMoreModel" ({ cls := "PennyMoreModel", name := "count", desc := "(I)I" } : Jvm.MethodName) ({ cls := "PennyMoreModel", name := "count", desc := "(I)I" } : Jvm.MethodName)) ∈ mm_G := mm_gi_7 (i := 110) rfl rfl
theorem gw_1060 : (Jvm.Cond.methodLink "PennyMoreLaw" (143 : Nat) ({ cls := "PennyMore", name := "tape", desc := "(III)I" } : Jvm.MethodName)) ∈ mm_G := mm_gi_5 (i := 8) rfl rfl
theorem gw_1061 : (Jvm.Cond.instanceMethod ({ cls := "PennyMore", name := "tape", desc := "(III)I" } : Jvm.MethodName)) ∈ mm_G := mm_gi_5 (i := 9) rfl rfl
theorem gw_1062 : (Jvm.Cond.selects "PennyMore" ({ cls := "PennyMore", name := "tape", desc := "(III)I" } : Jvm.MethodName) ({ cls := "PennyMore", name := "tape", desc := "(III)I" } : Jvm.MethodName)) ∈ mm_G := mm_gi_5 (i := 10) rfl rfl
theorem gw_1063 : (Jvm.Cond.methodLink "PennyMoreLaw" (146 : Nat) ({ cls := "PennyMoreModel", name := "tape", desc := "(III)I" } : Jvm.MethodName)) ∈ mm_G := mm_gi_7 (i := 112) rfl rfl
theorem gw_1064 : (Jvm.Cond.instanceMethod ({ cls := "PennyMoreModel", name := "tape", desc := "(III)I" } : Jvm.MethodName)) ∈ mm_G := mm_gi_7 (i := 113) rfl rfl
theorem gw_1065 : (Jvm.Cond.selects "PennyMoreModel" ({ cls := "PennyMoreModel", name := "tape", desc := "(III)I" } : Jvm.MethodName) ({ cls := "PennyMoreModel", name := "tape", desc := "(III)I" } : Jvm.MethodName)) ∈ mm_G := mm_gi_7 (i := 114) rfl rfl
theorem gw_1066 : (Jvm.Cond.methodLink "PennyMoreLaw" (149 : Nat) ({ cls := "PennyMore", name := "item", desc := "(IIJ)I" } : Jvm.MethodName)) ∈ mm_G := mm_gi_5 (i := 16) rfl rfl
theorem gw_1067 : (Jvm.Cond.instanceMethod ({ cls := "PennyMore", name := "item", desc := "(IIJ)I" } : Jvm.MethodName)) ∈ mm_G := mm_gi_5 (i := 17) rfl rfl
theorem gw_1068 : (Jvm.Cond.selects "PennyMore" ({ cls := "PennyMore", name := "item", desc := "(IIJ)I" } : Jvm.MethodName) ({ cls := "PennyMore", name := "item", desc := "(IIJ)I" } : Jvm.MethodName)) ∈ mm_G := mm_gi_5 (i := 18) rfl rfl
theorem gw_1069 : (Jvm.Cond.methodLink "PennyMoreLaw" (153 : Nat) ({ cls := "PennyMoreModel", name := "item", desc := "(IIJ)I" } : Jvm.MethodName)) ∈ mm_G := mm_gi_7 (i := 116) rfl rfl
theorem gw_1070 : (Jvm.Cond.instanceMethod ({ cls := "PennyMoreModel", name := "item", desc := "(IIJ)I" } : Jvm.MethodName)) ∈ mm_G := mm_gi_7 (i := 117) rfl rfl
theorem gw_1071 : (Jvm.Cond.selects "PennyMoreModel" ({ cls := "PennyMoreModel", name := "item", desc := "(IIJ)I" } : Jvm.MethodName) ({ cls := "PennyMoreModel", name := "item", desc := "(IIJ)I" } : Jvm.MethodName)) ∈ mm_G := mm_gi_7 (i := 118) rfl rfl
theorem gw_1072 : (Jvm.Cond.methodLink "PennyMoreLaw" (154 : Nat) ({ cls := "PennyMore", name := "read", desc := "(II)J" } : Jvm.MethodName)) ∈ mm_G := mm_gi_5 (i := 28) rfl rfl
theorem gw_1073 : (Jvm.Cond.instanceMethod ({ cls := "PennyMore", name := "read", desc := "(II)J" } : Jvm.MethodName)) ∈ mm_G := mm_gi_5 (i := 29) rfl rfl
theorem gw_1074 : (Jvm.Cond.selects "PennyMore" ({ cls := "PennyMore", name := "read", desc := "(II)J" } : Jvm.MethodName) ({ cls := "PennyMore", name := "read", desc := "(II)J" } : Jvm.MethodName)) ∈ mm_G := mm_gi_5 (i := 30) rfl rfl
theorem gw_1075 : (Jvm.Cond.methodLink "PennyMoreLaw" (157 : Nat) ({ cls := "PennyMoreModel", name := "read", desc := "(II)J" } : Jvm.MethodName)) ∈ mm_G := mm_gi_7 (i := 123) rfl rfl
theorem gw_1076 : (Jvm.Cond.instanceMethod ({ cls := "PennyMoreModel", name := "read", desc := "(II)J" } : Jvm.MethodName)) ∈ mm_G := mm_gi_7 (i := 124) rfl rfl
theorem gw_1077 : (Jvm.Cond.selects "PennyMoreModel" ({ cls := "PennyMoreModel", name := "read", desc := "(II)J" } : Jvm.MethodName) ({ cls := "PennyMoreModel", name := "read", desc := "(II)J" } : Jvm.MethodName)) ∈ mm_G := mm_gi_7 (i := 125) rfl rfl
theorem gw_1078 : (Jvm.Cond.methodLink "PennyMoreLaw" (158 : Nat) ({ cls := "PennyMore", name := "shift", desc := "(IIIII)I" } : Jvm.MethodName)) ∈ mm_G := mm_gi_5 (i := 32) rfl rfl
theorem gw_1079 : (Jvm.Cond.instanceMethod ({ cls := "PennyMore", name := "shift", desc := "(IIIII)I" } : Jvm.MethodName)) ∈ mm_G := mm_gi_5 (i := 33) rfl rfl
theorem gw_1080 : (Jvm.Cond.selects "PennyMore" ({ cls := "PennyMore", name := "shift", desc := "(IIIII)I" } : Jvm.MethodName) ({ cls := "PennyMore", name := "shift", desc := "(IIIII)I" } : Jvm.MethodName)) ∈ mm_G := mm_gi_5 (i := 34) rfl rfl
theorem gw_1081 : (Jvm.Cond.methodLink "PennyMoreLaw" (162 : Nat) ({ cls := "PennyMoreModel", name := "shift", desc := "(IIIII)I" } : Jvm.MethodName)) ∈ mm_G := mm_gi_7 (i := 127) rfl rfl
theorem gw_1082 : (Jvm.Cond.instanceMethod ({ cls := "PennyMoreModel", name := "shift", desc := "(IIIII)I" } : Jvm.MethodName)) ∈ mm_G := mm_gi_7 (i := 128) rfl rfl
theorem gw_1083 : (Jvm.Cond.selects "PennyMoreModel" ({ cls := "PennyMoreModel", name := "shift", desc := "(IIIII)I" } : Jvm.MethodName) ({ cls := "PennyMoreModel", name := "shift", desc := "(IIIII)I" } : Jvm.MethodName)) ∈ mm_G := mm_gi_7 (i := 129) rfl rfl
theorem gw_1084 : (Jvm.Cond.methodLink "PennyMore$Falling" (3 : Nat) ({ cls := "PennyMore$Buyer", name := "<init>", desc := "(IIII)V" } : Jvm.MethodName)) ∈ mm_G := mm_gi_2 (i := 88) rfl rfl
theorem gw_1085 : (Jvm.Cond.instanceMethod ({ cls := "PennyMore$Buyer", name := "<init>", desc := "(IIII)V" } : Jvm.MethodName)) ∈ mm_G := mm_gi_2 (i := 33) rfl rfl
theorem gw_1086 : (Jvm.Cond.methodLink "PennyMore$Falling" (27 : Nat) ({ cls := "PennyMore$Buyer", name := "does", desc := "(LPennyMore$Day;)I" } : Jvm.MethodName)) ∈ mm_G := mm_gi_3 (i := 195) rfl rfl
theorem gw_1087 : (Jvm.Cond.superclass "PennyMore$Falling" "PennyMore$Buyer") ∈ mm_G := mm_gi_2 (i := 93) rfl rfl
theorem gw_1088 : (Jvm.Cond.methodLink "PennyMore$Falling" (35 : Nat) ({ cls := "PennyMore$Buyer", name := "tells", desc := "(I[I)I" } : Jvm.MethodName)) ∈ mm_G := mm_gi_4 (i := 215) rfl rfl
theorem gw_1089 : (Jvm.Cond.methodLink "PennyMore$Late" (3 : Nat) ({ cls := "PennyMore$Waiting", name := "<init>", desc := "(IIII)V" } : Jvm.MethodName)) ∈ mm_G := mm_gi_2 (i := 110) rfl rfl
theorem gw_1090 : (Jvm.Cond.instanceMethod ({ cls := "PennyMore$Waiting", name := "<init>", desc := "(IIII)V" } : Jvm.MethodName)) ∈ mm_G := mm_gi_2 (i := 75) rfl rfl
theorem gw_1091 : (Jvm.Cond.methodLink "PennyMore$Late" (27 : Nat) ({ cls := "PennyMore$Waiting", name := "does", desc := "(LPennyMore$Day;)I" } : Jvm.MethodName)) ∈ mm_G := mm_gi_3 (i := 203) rfl rfl
theorem gw_1092 : (Jvm.Cond.sameMethod "PennyMore$Waiting" "PennyMore$Waiting" "does" "(LPennyMore$Day;)I") ∈ mm_G := mm_gi_7 (i := 132) rfl rfl
theorem gw_1093 : (Jvm.Cond.superclass "PennyMore$Late" "PennyMore$Waiting") ∈ mm_G := mm_gi_2 (i := 115) rfl rfl
theorem gw_1094 : (Jvm.Cond.superclass "PennyMore$Waiting" "PennyMore$Buyer") ∈ mm_G := mm_gi_2 (i := 82) rfl rfl
theorem gw_1095 : (Jvm.Cond.methodLink "PennyMore$Late" (35 : Nat) ({ cls := "PennyMore$Waiting", name := "tells", desc := "(I[I)I" } : Jvm.MethodName)) ∈ mm_G := mm_gi_4 (i := 224) rfl rfl
theorem gw_1096 : (Jvm.Cond.sameMethod "PennyMore$Waiting" "PennyMore$Buyer" "tells" "(I[I)I") ∈ mm_G := mm_gi_4 (i := 225) rfl rfl
theorem gw_1097 : (Jvm.Cond.methodLink "PennyMore$Plain" (3 : Nat) ({ cls := "PennyMore$Buyer", name := "<init>", desc := "(IIII)V" } : Jvm.MethodName)) ∈ mm_G := mm_gi_2 (i := 32) rfl rfl
theorem gw_1098 : (Jvm.Cond.methodLink "PennyMore$Plain" (25 : Nat) ({ cls := "PennyMore$Buyer", name := "waits", desc := "(I[I)I" } : Jvm.MethodName)) ∈ mm_G := mm_gi_4 (i := 192) rfl rfl
theorem gw_1099 : (Jvm.Cond.superclass "PennyMore$Plain" "PennyMore$Buyer") ∈ mm_G := mm_gi_2 (i := 71) rfl rfl
theorem gw_1100 : (Jvm.Cond.methodLink "PennyMore$Sure" (3 : Nat) ({ cls := "PennyMore$Plain", name := "<init>", desc := "(IIII)V" } : Jvm.MethodName)) ∈ mm_G := mm_gi_2 (i := 99) rfl rfl
theorem gw_1101 : (Jvm.Cond.instanceMethod ({ cls := "PennyMore$Plain", name := "<init>", desc := "(IIII)V" } : Jvm.MethodName)) ∈ mm_G := mm_gi_2 (i := 30) rfl rfl
theorem gw_1102 : (Jvm.Cond.methodLink "PennyMore$Sure" (20 : Nat) ({ cls := "PennyMore$Plain", name := "does", desc := "(LPennyMore$Day;)I" } : Jvm.MethodName)) ∈ mm_G := mm_gi_3 (i := 218) rfl rfl
theorem gw_1103 : (Jvm.Cond.sameMethod "PennyMore$Plain" "PennyMore$Plain" "does" "(LPennyMore$Day;)I") ∈ mm_G := mm_gi_7 (i := 133) rfl rfl
theorem gw_1104 : (Jvm.Cond.superclass "PennyMore$Sure" "PennyMore$Plain") ∈ mm_G := mm_gi_2 (i := 104) rfl rfl
theorem gw_1105 : (Jvm.Cond.methodLink "PennyMore$Sure" (28 : Nat) ({ cls := "PennyMore$Plain", name := "bids", desc := "(I[I)I" } : Jvm.MethodName)) ∈ mm_G := mm_gi_4 (i := 168) rfl rfl
theorem gw_1106 : (Jvm.Cond.sameMethod "PennyMore$Plain" "PennyMore$Buyer" "bids" "(I[I)I") ∈ mm_G := mm_gi_4 (i := 169) rfl rfl
theorem gw_1107 : (Jvm.Cond.methodLink "PennyMore$Sure" (32 : Nat) ({ cls := "PennyMore$Plain", name := "waits", desc := "(I[I)I" } : Jvm.MethodName)) ∈ mm_G := mm_gi_4 (i := 196) rfl rfl
theorem gw_1108 : (Jvm.Cond.sameMethod "PennyMore$Plain" "PennyMore$Plain" "waits" "(I[I)I") ∈ mm_G := mm_gi_7 (i := 135) rfl rfl
theorem gw_1109 : (Jvm.Cond.methodLink "PennyMore$Told" (3 : Nat) ({ cls := "PennyMore$Falling", name := "<init>", desc := "(IIII)V" } : Jvm.MethodName)) ∈ mm_G := mm_gi_2 (i := 121) rfl rfl
theorem gw_1110 : (Jvm.Cond.instanceMethod ({ cls := "PennyMore$Falling", name := "<init>", desc := "(IIII)V" } : Jvm.MethodName)) ∈ mm_G := mm_gi_2 (i := 86) rfl rfl
theorem gw_1111 : (Jvm.Cond.methodLink "PennyMore$Told" (28 : Nat) ({ cls := "PennyMore$Falling", name := "does", desc := "(LPennyMore$Day;)I" } : Jvm.MethodName)) ∈ mm_G := mm_gi_3 (i := 223) rfl rfl
theorem gw_1112 : (Jvm.Cond.sameMethod "PennyMore$Falling" "PennyMore$Falling" "does" "(LPennyMore$Day;)I") ∈ mm_G := mm_gi_7 (i := 134) rfl rfl
theorem gw_1113 : (Jvm.Cond.superclass "PennyMore$Told" "PennyMore$Falling") ∈ mm_G := mm_gi_2 (i := 126) rfl rfl
theorem gw_1114 : (Jvm.Cond.methodLink "PennyMore$Told" (36 : Nat) ({ cls := "PennyMore$Falling", name := "waits", desc := "(I[I)I" } : Jvm.MethodName)) ∈ mm_G := mm_gi_4 (i := 200) rfl rfl
theorem gw_1115 : (Jvm.Cond.methodLink "PennyMore$Told" (40 : Nat) ({ cls := "PennyMore$Falling", name := "bids", desc := "(I[I)I" } : Jvm.MethodName)) ∈ mm_G := mm_gi_4 (i := 176) rfl rfl
theorem gw_1116 : (Jvm.Cond.sameMethod "PennyMore$Falling" "PennyMore$Buyer" "bids" "(I[I)I") ∈ mm_G := mm_gi_4 (i := 177) rfl rfl
theorem gw_1117 : (Jvm.Cond.methodLink "PennyMore$Waiting" (3 : Nat) ({ cls := "PennyMore$Buyer", name := "<init>", desc := "(IIII)V" } : Jvm.MethodName)) ∈ mm_G := mm_gi_2 (i := 77) rfl rfl
theorem gw_1118 : (Jvm.Cond.methodLink "PennyMore$Waiting" (27 : Nat) ({ cls := "PennyMore$Buyer", name := "does", desc := "(LPennyMore$Day;)I" } : Jvm.MethodName)) ∈ mm_G := mm_gi_3 (i := 207) rfl rfl
theorem gw_1119 : (Jvm.Cond.methodLink "PennyMore$Waiting" (35 : Nat) ({ cls := "PennyMore$Buyer", name := "bids", desc := "(I[I)I" } : Jvm.MethodName)) ∈ mm_G := mm_gi_4 (i := 161) rfl rfl
theorem gw_1120 : (Jvm.Cond.methodLink "PennyMore" (11 : Nat) ({ cls := "PennyMore$Shop", name := "<init>", desc := "()V" } : Jvm.MethodName)) ∈ mm_G := mm_gi_1 (i := 31) rfl rfl
theorem gw_1121 : (Jvm.Cond.instanceMethod ({ cls := "PennyMore$Shop", name := "<init>", desc := "()V" } : Jvm.MethodName)) ∈ mm_G := mm_gi_1 (i := 32) rfl rfl
theorem gw_1122 : (Jvm.Cond.methodLink "PennyMore" (14 : Nat) ({ cls := "PennyMore$Day", name := "<init>", desc := "(LPennyMore$Shop;)V" } : Jvm.MethodName)) ∈ mm_G := mm_gi_1 (i := 85) rfl rfl
theorem gw_1123 : (Jvm.Cond.instanceMethod ({ cls := "PennyMore$Day", name := "<init>", desc := "(LPennyMore$Shop;)V" } : Jvm.MethodName)) ∈ mm_G := mm_gi_1 (i := 86) rfl rfl
theorem gw_1124 : (Jvm.Cond.instanceMethod ({ cls := "PennyMore$Reader", name := "<init>", desc := "()V" } : Jvm.MethodName)) ∈ mm_G := mm_gi_1 (i := 182) rfl rfl
theorem gw_1125 : (Jvm.Cond.instanceMethod ({ cls := "PennyMore$Tape", name := "<init>", desc := "()V" } : Jvm.MethodName)) ∈ mm_G := mm_gi_1 (i := 203) rfl rfl
theorem gw_1126 : (Jvm.Cond.methodLink "PennyMore" (328 : Nat) ({ cls := "PennyMore$Plain", name := "<init>", desc := "(IIII)V" } : Jvm.MethodName)) ∈ mm_G := mm_gi_2 (i := 29) rfl rfl
theorem gw_1127 : (Jvm.Cond.methodLink "PennyMore" (333 : Nat) ({ cls := "PennyMore$Waiting", name := "<init>", desc := "(IIII)V" } : Jvm.MethodName)) ∈ mm_G := mm_gi_2 (i := 74) rfl rfl
theorem gw_1128 : (Jvm.Cond.methodLink "PennyMore" (336 : Nat) ({ cls := "PennyMore$Falling", name := "<init>", desc := "(IIII)V" } : Jvm.MethodName)) ∈ mm_G := mm_gi_2 (i := 85) rfl rfl
theorem gw_1129 : (Jvm.Cond.methodLink "PennyMore" (339 : Nat) ({ cls := "PennyMore$Sure", name := "<init>", desc := "(IIII)V" } : Jvm.MethodName)) ∈ mm_G := mm_gi_2 (i := 96) rfl rfl
theorem gw_1130 : (Jvm.Cond.instanceMethod ({ cls := "PennyMore$Sure", name := "<init>", desc := "(IIII)V" } : Jvm.MethodName)) ∈ mm_G := mm_gi_2 (i := 97) rfl rfl
theorem gw_1131 : (Jvm.Cond.methodLink "PennyMore" (342 : Nat) ({ cls := "PennyMore$Late", name := "<init>", desc := "(IIII)V" } : Jvm.MethodName)) ∈ mm_G := mm_gi_2 (i := 107) rfl rfl
theorem gw_1132 : (Jvm.Cond.instanceMethod ({ cls := "PennyMore$Late", name := "<init>", desc := "(IIII)V" } : Jvm.MethodName)) ∈ mm_G := mm_gi_2 (i := 108) rfl rfl
theorem gw_1133 : (Jvm.Cond.methodLink "PennyMore" (345 : Nat) ({ cls := "PennyMore$Told", name := "<init>", desc := "(IIII)V" } : Jvm.MethodName)) ∈ mm_G := mm_gi_2 (i := 118) rfl rfl
theorem gw_1134 : (Jvm.Cond.instanceMethod ({ cls := "PennyMore$Told", name := "<init>", desc := "(IIII)V" } : Jvm.MethodName)) ∈ mm_G := mm_gi_2 (i := 119) rfl rfl
theorem gw_1135 : (Jvm.Cond.methodLink "PennyMore" (346 : Nat) ({ cls := "PennyMore$Buyer", name := "<init>", desc := "(IIII)V" } : Jvm.MethodName)) ∈ mm_G := mm_gi_2 (i := 129) rfl rfl
theorem gw_1136 : (Jvm.Cond.methodLink "PennyMoreLaw" (9 : Nat) ({ cls := "PennyMore", name := "<init>", desc := "()V" } : Jvm.MethodName)) ∈ mm_G := mm_gi_1 (i := 23) rfl rfl
theorem gw_1137 : (Jvm.Cond.instanceMethod ({ cls := "PennyMore", name := "<init>", desc := "()V" } : Jvm.MethodName)) ∈ mm_G := mm_gi_1 (i := 24) rfl rfl
theorem gw_1138 : (Jvm.Cond.methodLink "PennyMoreLaw" (12 : Nat) ({ cls := "PennyMoreModel", name := "<init>", desc := "()V" } : Jvm.MethodName)) ∈ mm_G := mm_gi_5 (i := 42) rfl rfl
theorem gw_1139 : (Jvm.Cond.instanceMethod ({ cls := "PennyMoreModel", name := "<init>", desc := "()V" } : Jvm.MethodName)) ∈ mm_G := mm_gi_5 (i := 43) rfl rfl
theorem gw_1140 : (Jvm.Cond.methodLink "PennyMore$Buyer" (3 : Nat) ({ cls := "java/lang/Object", name := "<init>", desc := "()V" } : Jvm.MethodName)) ∈ mm_G := mm_gi_2 (i := 35) rfl rfl
theorem gw_1141 : (Jvm.Cond.methodLink "PennyMore$Day" (3 : Nat) ({ cls := "java/lang/Object", name := "<init>", desc := "()V" } : Jvm.MethodName)) ∈ mm_G := mm_gi_1 (i := 88) rfl rfl
theorem gw_1142 : (Jvm.Cond.methodLink "PennyMore$Reader" (1 : Nat) ({ cls := "java/lang/Object", name := "<init>", desc := "()V" } : Jvm.MethodName)) ∈ mm_G := mm_gi_1 (i := 184) rfl rfl
theorem gw_1143 : (Jvm.Cond.methodLink "PennyMore$Shop" (1 : Nat) ({ cls := "java/lang/Object", name := "<init>", desc := "()V" } : Jvm.MethodName)) ∈ mm_G := mm_gi_1 (i := 34) rfl rfl
theorem gw_1144 : (Jvm.Cond.methodLink "PennyMore$Tape" (1 : Nat) ({ cls := "java/lang/Object", name := "<init>", desc := "()V" } : Jvm.MethodName)) ∈ mm_G := mm_gi_1 (i := 205) rfl rfl
theorem gw_1145 : (Jvm.Cond.methodLink "PennyMore" (3 : Nat) ({ cls := "java/lang/Object", name := "<init>", desc := "()V" } : Jvm.MethodName)) ∈ mm_G := mm_gi_1 (i := 26) rfl rfl
theorem gw_1146 : (Jvm.Cond.methodLink "PennyMoreModel" (3 : Nat) ({ cls := "java/lang/Object", name := "<init>", desc := "()V" } : Jvm.MethodName)) ∈ mm_G := mm_gi_5 (i := 45) rfl rfl
theorem gw_1147 : (Jvm.Cond.instanceMethod ({ cls := "java/lang/Object", name := "<init>", desc := "()V" } : Jvm.MethodName)) ∈ mm_G := mm_gi_1 (i := 27) rfl rfl
theorem gw_1148 : (Jvm.Cond.code ({ cls := "java/lang/Object", name := "<init>", desc := "()V" } : Jvm.MethodName) object_method_1_code (1 : Nat) (Option.none : Option Jvm.ClassFile.FieldType)) ∈ mm_G := mm_gi_1 (i := 28) rfl rfl
theorem gw_1149 : (Jvm.Cond.methodLink "PennyMore$Day" (56 : Nat) ({ cls := "java/lang/System", name := "arraycopy", desc := "(Ljava/lang/Object;ILjava/lang/Object;II)V" } : Jvm.MethodName)) ∈ mm_G := mm_gi_3 (i := 176) rfl rfl
theorem gw_1150 : (Jvm.Cond.methodLink "PennyMore" (320 : Nat) ({ cls := "java/lang/System", name := "arraycopy", desc := "(Ljava/lang/Object;ILjava/lang/Object;II)V" } : Jvm.MethodName)) ∈ mm_G := mm_gi_4 (i := 54) rfl rfl
theorem gw_1151 : (Jvm.Cond.native ({ cls := "java/lang/System", name := "arraycopy", desc := "(Ljava/lang/Object;ILjava/lang/Object;II)V" } : Jvm.MethodName)) ∈ mm_G := mm_gi_3 (i := 178) rfl rfl
theorem gw_1152 : (Jvm.Cond.static ({ cls := "java/lang/System", name := "arraycopy", desc := "(Ljava/lang/Object;ILjava/lang/Object;II)V" } : Jvm.MethodName)) ∈ mm_G := mm_gi_3 (i := 177) rfl rfl
theorem gw_1153 : (Jvm.Cond.initialized "java/lang/System") ∈ mm_G := mm_gi_1 (i := 20) rfl rfl
theorem gw_1154 : (Jvm.Cond.methodLink "PennyMore$Day" (127 : Nat) ({ cls := "java/lang/Math", name := "min", desc := "(II)I" } : Jvm.MethodName)) ∈ mm_G := mm_gi_4 (i := 5) rfl rfl
theorem gw_1155 : (Jvm.Cond.methodLink "PennyMore$Reader" (92 : Nat) ({ cls := "java/lang/Math", name := "min", desc := "(II)I" } : Jvm.MethodName)) ∈ mm_G := mm_gi_3 (i := 149) rfl rfl
theorem gw_1156 : (Jvm.Cond.methodLink "PennyMore" (248 : Nat) ({ cls := "java/lang/Math", name := "min", desc := "(II)I" } : Jvm.MethodName)) ∈ mm_G := mm_gi_4 (i := 95) rfl rfl
theorem gw_1157 : (Jvm.Cond.methodLink "java/lang/StringLatin1" (38 : Nat) ({ cls := "java/lang/Math", name := "min", desc := "(II)I" } : Jvm.MethodName)) ∈ mm_G := mm_gi_3 (i := 95) rfl rfl
theorem gw_1158 : (Jvm.Cond.methodLink "java/lang/StringLatin1" (92 : Nat) ({ cls := "java/lang/Math", name := "max", desc := "(II)I" } : Jvm.MethodName)) ∈ mm_G := mm_gi_3 (i := 92) rfl rfl
theorem gw_1159 : (Jvm.Cond.static ({ cls := "java/lang/Math", name := "min", desc := "(II)I" } : Jvm.MethodName)) ∈ mm_G := mm_gi_3 (i := 96) rfl rfl
theorem gw_1160 : (Jvm.Cond.code ({ cls := "java/lang/Math", name := "min", desc := "(II)I" } : Jvm.MethodName) prog_16_method_69_code (2 : Nat) (Option.some Jvm.ClassFile.FieldType.int)) ∈ mm_G := mm_gi_3 (i := 97) rfl rfl
theorem gw_1161 : (Jvm.Cond.static ({ cls := "java/lang/Math", name := "max", desc := "(II)I" } : Jvm.MethodName)) ∈ mm_G := mm_gi_3 (i := 93) rfl rfl
theorem gw_1162 : (Jvm.Cond.code ({ cls := "java/lang/Math", name := "max", desc := "(II)I" } : Jvm.MethodName) prog_16_method_65_code (2 : Nat) (Option.some Jvm.ClassFile.FieldType.int)) ∈ mm_G := mm_gi_3 (i := 94) rfl rfl
theorem gw_1163 : (Jvm.Cond.initialized "java/lang/Math") ∈ mm_G := mm_gi_1 (i := 18) rfl rfl
theorem gw_1164 : (Jvm.Cond.classLink "PennyMore" (9 : Nat) "PennyMore$Shop") ∈ mm_G := mm_gi_1 (i := 29) rfl rfl
theorem gw_1165 : (Jvm.Cond.instantiable "PennyMore$Shop" (10 : Nat)) ∈ mm_G := mm_gi_1 (i := 30) rfl rfl
theorem gw_1166 : (Jvm.Cond.classLink "PennyMore" (12 : Nat) "PennyMore$Day") ∈ mm_G := mm_gi_1 (i := 83) rfl rfl
theorem gw_1167 : (Jvm.Cond.instantiable "PennyMore$Day" (20 : Nat)) ∈ mm_G := mm_gi_1 (i := 84) rfl rfl
theorem gw_1168 : (Jvm.Cond.classLink "PennyMore" (36 : Nat) "PennyMore$Reader") ∈ mm_G := mm_gi_1 (i := 179) rfl rfl
theorem gw_1169 : (Jvm.Cond.instantiable "PennyMore$Reader" (4 : Nat)) ∈ mm_G := mm_gi_1 (i := 180) rfl rfl
theorem gw_1170 : (Jvm.Cond.classLink "PennyMore" (43 : Nat) "PennyMore$Tape") ∈ mm_G := mm_gi_1 (i := 199) rfl rfl
theorem gw_1171 : (Jvm.Cond.instantiable "PennyMore$Tape" (3 : Nat)) ∈ mm_G := mm_gi_1 (i := 201) rfl rfl
theorem gw_1172 : (Jvm.Cond.classLink "PennyMore" (63 : Nat) "PennyMore$Buyer") ∈ mm_G := mm_gi_2 (i := 127) rfl rfl
theorem gw_1173 : (Jvm.Cond.instantiable "PennyMore$Buyer" (4 : Nat)) ∈ mm_G := mm_gi_2 (i := 128) rfl rfl
theorem gw_1174 : (Jvm.Cond.classLink "PennyMore" (326 : Nat) "PennyMore$Plain") ∈ mm_G := mm_gi_2 (i := 27) rfl rfl
theorem gw_1175 : (Jvm.Cond.instantiable "PennyMore$Plain" (4 : Nat)) ∈ mm_G := mm_gi_2 (i := 28) rfl rfl
theorem gw_1176 : (Jvm.Cond.classLink "PennyMore" (331 : Nat) "PennyMore$Waiting") ∈ mm_G := mm_gi_2 (i := 72) rfl rfl
theorem gw_1177 : (Jvm.Cond.instantiable "PennyMore$Waiting" (4 : Nat)) ∈ mm_G := mm_gi_2 (i := 73) rfl rfl
theorem gw_1178 : (Jvm.Cond.classLink "PennyMore" (334 : Nat) "PennyMore$Falling") ∈ mm_G := mm_gi_2 (i := 83) rfl rfl
theorem gw_1179 : (Jvm.Cond.instantiable "PennyMore$Falling" (4 : Nat)) ∈ mm_G := mm_gi_2 (i := 84) rfl rfl
theorem gw_1180 : (Jvm.Cond.classLink "PennyMore" (337 : Nat) "PennyMore$Sure") ∈ mm_G := mm_gi_2 (i := 94) rfl rfl
theorem gw_1181 : (Jvm.Cond.instantiable "PennyMore$Sure" (4 : Nat)) ∈ mm_G := mm_gi_2 (i := 95) rfl rfl
theorem gw_1182 : (Jvm.Cond.classLink "PennyMore" (340 : Nat) "PennyMore$Late") ∈ mm_G := mm_gi_2 (i := 105) rfl rfl
theorem gw_1183 : (Jvm.Cond.instantiable "PennyMore$Late" (4 : Nat)) ∈ mm_G := mm_gi_2 (i := 106) rfl rfl
theorem gw_1184 : (Jvm.Cond.classLink "PennyMore" (343 : Nat) "PennyMore$Told") ∈ mm_G := mm_gi_2 (i := 116) rfl rfl
theorem gw_1185 : (Jvm.Cond.instantiable "PennyMore$Told" (4 : Nat)) ∈ mm_G := mm_gi_2 (i := 117) rfl rfl
theorem gw_1186 : (Jvm.Cond.classLink "PennyMoreLaw" (7 : Nat) "PennyMore") ∈ mm_G := mm_gi_1 (i := 21) rfl rfl
theorem gw_1187 : (Jvm.Cond.instantiable "PennyMore" (13 : Nat)) ∈ mm_G := mm_gi_1 (i := 22) rfl rfl
theorem gw_1188 : (Jvm.Cond.classLink "PennyMoreLaw" (10 : Nat) "PennyMoreModel") ∈ mm_G := mm_gi_5 (i := 40) rfl rfl
theorem gw_1189 : (Jvm.Cond.instantiable "PennyMoreModel" (76 : Nat)) ∈ mm_G := mm_gi_5 (i := 41) rfl rfl
theorem gw_1190 : (Jvm.Cond.laysFinal "PennyMore$Buyer" "PennyMore$Buyer" "kind" "I") ∈ mm_G := mm_gi_2 (i := 130) rfl rfl
theorem gw_1191 : (Jvm.Cond.laysFinal "PennyMore$Buyer" "PennyMore$Buyer" "number" "I") ∈ mm_G := mm_gi_2 (i := 131) rfl rfl
theorem gw_1192 : (Jvm.Cond.laysFinal "PennyMore$Buyer" "PennyMore$Buyer" "v" "I") ∈ mm_G := mm_gi_2 (i := 132) rfl rfl
theorem gw_1193 : (Jvm.Cond.laysFinal "PennyMore$Buyer" "PennyMore$Buyer" "worth" "I") ∈ mm_G := mm_gi_2 (i := 133) rfl rfl
theorem gw_1194 : (Jvm.Cond.laysFinal "PennyMore$Day" "PennyMore$Day" "buyers" "[LPennyMore$Buyer;") ∈ mm_G := mm_gi_1 (i := 137) rfl rfl
theorem gw_1195 : (Jvm.Cond.laysFinal "PennyMore$Day" "PennyMore$Day" "friends" "[I") ∈ mm_G := mm_gi_1 (i := 139) rfl rfl
theorem gw_1196 : (Jvm.Cond.laysFinal "PennyMore$Day" "PennyMore$Day" "tells" "[I") ∈ mm_G := mm_gi_1 (i := 141) rfl rfl
theorem gw_1197 : (Jvm.Cond.laysFinal "PennyMore$Day" "PennyMore$Day" "aways" "[I") ∈ mm_G := mm_gi_1 (i := 143) rfl rfl
theorem gw_1198 : (Jvm.Cond.laysFinal "PennyMore$Day" "PennyMore$Day" "gained" "[I") ∈ mm_G := mm_gi_1 (i := 145) rfl rfl
theorem gw_1199 : (Jvm.Cond.laysFinal "PennyMore$Day" "PennyMore$Day" "row" "[I") ∈ mm_G := mm_gi_1 (i := 147) rfl rfl
theorem gw_1200 : (Jvm.Cond.laysFinal "PennyMore$Day" "PennyMore$Day" "film" "[I") ∈ mm_G := mm_gi_1 (i := 149) rfl rfl
theorem gw_1201 : (Jvm.Cond.laysFinal "PennyMore$Day" "PennyMore$Day" "measures" "[I") ∈ mm_G := mm_gi_1 (i := 151) rfl rfl
theorem gw_1202 : (Jvm.Cond.lays "PennyMore$Day" "PennyMore$Day" "shop" "LPennyMore$Shop;") ∈ mm_G := mm_gi_1 (i := 153) rfl rfl
theorem gw_1203 : (Jvm.Cond.lays "PennyMore$Day" "PennyMore$Day" "fee" "I") ∈ mm_G := mm_gi_1 (i := 155) rfl rfl
theorem gw_1204 : (Jvm.Cond.lays "PennyMore$Day" "PennyMore$Day" "known" "I") ∈ mm_G := mm_gi_1 (i := 157) rfl rfl
theorem gw_1205 : (Jvm.Cond.lays "PennyMore$Day" "PennyMore$Day" "standing" "I") ∈ mm_G := mm_gi_1 (i := 159) rfl rfl
theorem gw_1206 : (Jvm.Cond.lays "PennyMore$Day" "PennyMore$Day" "price" "I") ∈ mm_G := mm_gi_1 (i := 161) rfl rfl
theorem gw_1207 : (Jvm.Cond.lays "PennyMore$Day" "PennyMore$Day" "loaves" "I") ∈ mm_G := mm_gi_1 (i := 163) rfl rfl
theorem gw_1208 : (Jvm.Cond.lays "PennyMore$Day" "PennyMore$Day" "till" "I") ∈ mm_G := mm_gi_1 (i := 165) rfl rfl
theorem gw_1209 : (Jvm.Cond.lays "PennyMore$Day" "PennyMore$Day" "turns" "I") ∈ mm_G := mm_gi_1 (i := 167) rfl rfl
theorem gw_1210 : (Jvm.Cond.lays "PennyMore$Day" "PennyMore$Day" "slips" "I") ∈ mm_G := mm_gi_1 (i := 169) rfl rfl
theorem gw_1211 : (Jvm.Cond.lays "PennyMore$Day" "PennyMore$Day" "filmed" "I") ∈ mm_G := mm_gi_1 (i := 171) rfl rfl
theorem gw_1212 : (Jvm.Cond.lays "PennyMore$Day" "PennyMore$Day" "value" "I") ∈ mm_G := mm_gi_1 (i := 173) rfl rfl
theorem gw_1213 : (Jvm.Cond.lays "PennyMore$Day" "PennyMore$Day" "cost" "I") ∈ mm_G := mm_gi_1 (i := 175) rfl rfl
theorem gw_1214 : (Jvm.Cond.laysFinal "PennyMore$Falling" "PennyMore$Buyer" "kind" "I") ∈ mm_G := mm_gi_2 (i := 89) rfl rfl
theorem gw_1215 : (Jvm.Cond.laysFinal "PennyMore$Falling" "PennyMore$Buyer" "number" "I") ∈ mm_G := mm_gi_2 (i := 90) rfl rfl
theorem gw_1216 : (Jvm.Cond.laysFinal "PennyMore$Falling" "PennyMore$Buyer" "v" "I") ∈ mm_G := mm_gi_2 (i := 91) rfl rfl
theorem gw_1217 : (Jvm.Cond.laysFinal "PennyMore$Falling" "PennyMore$Buyer" "worth" "I") ∈ mm_G := mm_gi_2 (i := 92) rfl rfl
theorem gw_1218 : (Jvm.Cond.laysFinal "PennyMore$Late" "PennyMore$Buyer" "kind" "I") ∈ mm_G := mm_gi_2 (i := 111) rfl rfl
theorem gw_1219 : (Jvm.Cond.laysFinal "PennyMore$Late" "PennyMore$Buyer" "number" "I") ∈ mm_G := mm_gi_2 (i := 112) rfl rfl
theorem gw_1220 : (Jvm.Cond.laysFinal "PennyMore$Late" "PennyMore$Buyer" "v" "I") ∈ mm_G := mm_gi_2 (i := 113) rfl rfl
theorem gw_1221 : (Jvm.Cond.laysFinal "PennyMore$Late" "PennyMore$Buyer" "worth" "I") ∈ mm_G := mm_gi_2 (i := 114) rfl rfl
theorem gw_1222 : (Jvm.Cond.laysFinal "PennyMore$Plain" "PennyMore$Buyer" "kind" "I") ∈ mm_G := mm_gi_2 (i := 63) rfl rfl
theorem gw_1223 : (Jvm.Cond.laysFinal "PennyMore$Plain" "PennyMore$Buyer" "number" "I") ∈ mm_G := mm_gi_2 (i := 65) rfl rfl
theorem gw_1224 : (Jvm.Cond.laysFinal "PennyMore$Plain" "PennyMore$Buyer" "v" "I") ∈ mm_G := mm_gi_2 (i := 67) rfl rfl
theorem gw_1225 : (Jvm.Cond.laysFinal "PennyMore$Plain" "PennyMore$Buyer" "worth" "I") ∈ mm_G := mm_gi_2 (i := 69) rfl rfl
theorem gw_1226 : (Jvm.Cond.lays "PennyMore$Reader" "PennyMore$Reader" "size" "I") ∈ mm_G := mm_gi_1 (i := 190) rfl rfl
theorem gw_1227 : (Jvm.Cond.laysFinal "PennyMore$Reader" "PennyMore$Reader" "text" "[I") ∈ mm_G := mm_gi_1 (i := 192) rfl rfl
theorem gw_1228 : (Jvm.Cond.lays "PennyMore$Reader" "PennyMore$Reader" "at" "I") ∈ mm_G := mm_gi_1 (i := 194) rfl rfl
theorem gw_1229 : (Jvm.Cond.lays "PennyMore$Reader" "PennyMore$Reader" "shop" "LPennyMore$Shop;") ∈ mm_G := mm_gi_1 (i := 196) rfl rfl
theorem gw_1230 : (Jvm.Cond.lays "PennyMore$Shop" "PennyMore$Shop" "up" "I") ∈ mm_G := mm_gi_1 (i := 61) rfl rfl
theorem gw_1231 : (Jvm.Cond.lays "PennyMore$Shop" "PennyMore$Shop" "down" "I") ∈ mm_G := mm_gi_1 (i := 63) rfl rfl
theorem gw_1232 : (Jvm.Cond.lays "PennyMore$Shop" "PennyMore$Shop" "away" "I") ∈ mm_G := mm_gi_1 (i := 65) rfl rfl
theorem gw_1233 : (Jvm.Cond.lays "PennyMore$Shop" "PennyMore$Shop" "fee" "I") ∈ mm_G := mm_gi_1 (i := 67) rfl rfl
theorem gw_1234 : (Jvm.Cond.laysFinal "PennyMore$Shop" "PennyMore$Shop" "sorts" "[I") ∈ mm_G := mm_gi_1 (i := 69) rfl rfl
theorem gw_1235 : (Jvm.Cond.laysFinal "PennyMore$Shop" "PennyMore$Shop" "amounts" "[I") ∈ mm_G := mm_gi_1 (i := 71) rfl rfl
theorem gw_1236 : (Jvm.Cond.laysFinal "PennyMore$Shop" "PennyMore$Shop" "ends" "[I") ∈ mm_G := mm_gi_1 (i := 73) rfl rfl
theorem gw_1237 : (Jvm.Cond.laysFinal "PennyMore$Shop" "PennyMore$Shop" "code" "[I") ∈ mm_G := mm_gi_1 (i := 75) rfl rfl
theorem gw_1238 : (Jvm.Cond.lays "PennyMore$Shop" "PennyMore$Shop" "clauses" "I") ∈ mm_G := mm_gi_1 (i := 77) rfl rfl
theorem gw_1239 : (Jvm.Cond.lays "PennyMore$Shop" "PennyMore$Shop" "coded" "I") ∈ mm_G := mm_gi_1 (i := 79) rfl rfl
theorem gw_1240 : (Jvm.Cond.laysFinal "PennyMore$Sure" "PennyMore$Buyer" "kind" "I") ∈ mm_G := mm_gi_2 (i := 100) rfl rfl
theorem gw_1241 : (Jvm.Cond.laysFinal "PennyMore$Sure" "PennyMore$Buyer" "number" "I") ∈ mm_G := mm_gi_2 (i := 101) rfl rfl
theorem gw_1242 : (Jvm.Cond.laysFinal "PennyMore$Sure" "PennyMore$Buyer" "v" "I") ∈ mm_G := mm_gi_2 (i := 102) rfl rfl
theorem gw_1243 : (Jvm.Cond.laysFinal "PennyMore$Sure" "PennyMore$Buyer" "worth" "I") ∈ mm_G := mm_gi_2 (i := 103) rfl rfl
theorem gw_1244 : (Jvm.Cond.laysFinal "PennyMore$Tape" "PennyMore$Tape" "items" "[J") ∈ mm_G := mm_gi_1 (i := 212) rfl rfl
theorem gw_1245 : (Jvm.Cond.lays "PennyMore$Tape" "PennyMore$Tape" "sort" "I") ∈ mm_G := mm_gi_1 (i := 214) rfl rfl
theorem gw_1246 : (Jvm.Cond.lays "PennyMore$Tape" "PennyMore$Tape" "size" "I") ∈ mm_G := mm_gi_1 (i := 216) rfl rfl
theorem gw_1247 : (Jvm.Cond.laysFinal "PennyMore$Told" "PennyMore$Buyer" "kind" "I") ∈ mm_G := mm_gi_2 (i := 122) rfl rfl
theorem gw_1248 : (Jvm.Cond.laysFinal "PennyMore$Told" "PennyMore$Buyer" "number" "I") ∈ mm_G := mm_gi_2 (i := 123) rfl rfl
theorem gw_1249 : (Jvm.Cond.laysFinal "PennyMore$Told" "PennyMore$Buyer" "v" "I") ∈ mm_G := mm_gi_2 (i := 124) rfl rfl
theorem gw_1250 : (Jvm.Cond.laysFinal "PennyMore$Told" "PennyMore$Buyer" "worth" "I") ∈ mm_G := mm_gi_2 (i := 125) rfl rfl
theorem gw_1251 : (Jvm.Cond.laysFinal "PennyMore$Waiting" "PennyMore$Buyer" "kind" "I") ∈ mm_G := mm_gi_2 (i := 78) rfl rfl
theorem gw_1252 : (Jvm.Cond.laysFinal "PennyMore$Waiting" "PennyMore$Buyer" "number" "I") ∈ mm_G := mm_gi_2 (i := 79) rfl rfl
theorem gw_1253 : (Jvm.Cond.laysFinal "PennyMore$Waiting" "PennyMore$Buyer" "v" "I") ∈ mm_G := mm_gi_2 (i := 80) rfl rfl
theorem gw_1254 : (Jvm.Cond.laysFinal "PennyMore$Waiting" "PennyMore$Buyer" "worth" "I") ∈ mm_G := mm_gi_2 (i := 81) rfl rfl
theorem gw_1255 : (Jvm.Cond.laysFinal "PennyMore" "PennyMore" "now" "LPennyMore$Day;") ∈ mm_G := mm_gi_1 (i := 233) rfl rfl
theorem gw_1256 : (Jvm.Cond.laysFinal "PennyMore" "PennyMore" "image" "LPennyMore$Day;") ∈ mm_G := mm_gi_1 (i := 235) rfl rfl
theorem gw_1257 : (Jvm.Cond.laysFinal "PennyMore" "PennyMore" "trial" "LPennyMore$Day;") ∈ mm_G := mm_gi_1 (i := 237) rfl rfl
theorem gw_1258 : (Jvm.Cond.laysFinal "PennyMore" "PennyMore" "base" "LPennyMore$Day;") ∈ mm_G := mm_gi_1 (i := 239) rfl rfl
theorem gw_1259 : (Jvm.Cond.laysFinal "PennyMore" "PennyMore" "shops" "[LPennyMore$Shop;") ∈ mm_G := mm_gi_2 (i := 1) rfl rfl
theorem gw_1260 : (Jvm.Cond.laysFinal "PennyMore" "PennyMore" "reader" "LPennyMore$Reader;") ∈ mm_G := mm_gi_2 (i := 3) rfl rfl
theorem gw_1261 : (Jvm.Cond.laysFinal "PennyMore" "PennyMore" "tapes" "[LPennyMore$Tape;") ∈ mm_G := mm_gi_2 (i := 5) rfl rfl
theorem gw_1262 : (Jvm.Cond.laysFinal "PennyMore" "PennyMore" "ran" "[I") ∈ mm_G := mm_gi_2 (i := 7) rfl rfl
theorem gw_1263 : (Jvm.Cond.laysFinal "PennyMore" "PennyMore" "lineup" "[I") ∈ mm_G := mm_gi_2 (i := 9) rfl rfl
theorem gw_1264 : (Jvm.Cond.laysFinal "PennyMore" "PennyMore" "bestLineup" "[I") ∈ mm_G := mm_gi_2 (i := 11) rfl rfl
theorem gw_1265 : (Jvm.Cond.laysFinal "PennyMore" "PennyMore" "values" "[I") ∈ mm_G := mm_gi_2 (i := 13) rfl rfl
theorem gw_1266 : (Jvm.Cond.lays "PennyMore" "PennyMore" "shopsRead" "I") ∈ mm_G := mm_gi_2 (i := 15) rfl rfl
theorem gw_1267 : (Jvm.Cond.lays "PennyMore" "PennyMore" "imageTaken" "Z") ∈ mm_G := mm_gi_2 (i := 17) rfl rfl
theorem gw_1268 : (Jvm.Cond.lays "PennyMoreModel" "PennyMoreModel" "buyers" "I") ∈ mm_G := mm_gi_5 (i := 122) rfl rfl
theorem gw_1269 : (Jvm.Cond.laysFinal "PennyMoreModel" "PennyMoreModel" "kind" "[I") ∈ mm_G := mm_gi_5 (i := 124) rfl rfl
theorem gw_1270 : (Jvm.Cond.laysFinal "PennyMoreModel" "PennyMoreModel" "number" "[I") ∈ mm_G := mm_gi_5 (i := 126) rfl rfl
theorem gw_1271 : (Jvm.Cond.laysFinal "PennyMoreModel" "PennyMoreModel" "worth" "[I") ∈ mm_G := mm_gi_5 (i := 128) rfl rfl
theorem gw_1272 : (Jvm.Cond.laysFinal "PennyMoreModel" "PennyMoreModel" "friend" "[I") ∈ mm_G := mm_gi_5 (i := 130) rfl rfl
theorem gw_1273 : (Jvm.Cond.laysFinal "PennyMoreModel" "PennyMoreModel" "aways" "[I") ∈ mm_G := mm_gi_5 (i := 132) rfl rfl
theorem gw_1274 : (Jvm.Cond.laysFinal "PennyMoreModel" "PennyMoreModel" "gained" "[I") ∈ mm_G := mm_gi_5 (i := 134) rfl rfl
theorem gw_1275 : (Jvm.Cond.laysFinal "PennyMoreModel" "PennyMoreModel" "tells" "[I") ∈ mm_G := mm_gi_5 (i := 136) rfl rfl
theorem gw_1276 : (Jvm.Cond.lays "PennyMoreModel" "PennyMoreModel" "inRow" "I") ∈ mm_G := mm_gi_5 (i := 138) rfl rfl
theorem gw_1277 : (Jvm.Cond.laysFinal "PennyMoreModel" "PennyMoreModel" "row" "[I") ∈ mm_G := mm_gi_5 (i := 140) rfl rfl
theorem gw_1278 : (Jvm.Cond.lays "PennyMoreModel" "PennyMoreModel" "price" "I") ∈ mm_G := mm_gi_5 (i := 142) rfl rfl
theorem gw_1279 : (Jvm.Cond.lays "PennyMoreModel" "PennyMoreModel" "loaves" "I") ∈ mm_G := mm_gi_5 (i := 144) rfl rfl
theorem gw_1280 : (Jvm.Cond.lays "PennyMoreModel" "PennyMoreModel" "till" "I") ∈ mm_G := mm_gi_5 (i := 146) rfl rfl
theorem gw_1281 : (Jvm.Cond.lays "PennyMoreModel" "PennyMoreModel" "turns" "I") ∈ mm_G := mm_gi_5 (i := 148) rfl rfl
theorem gw_1282 : (Jvm.Cond.lays "PennyMoreModel" "PennyMoreModel" "odds" "I") ∈ mm_G := mm_gi_5 (i := 150) rfl rfl
theorem gw_1283 : (Jvm.Cond.lays "PennyMoreModel" "PennyMoreModel" "filmed" "I") ∈ mm_G := mm_gi_5 (i := 152) rfl rfl
theorem gw_1284 : (Jvm.Cond.laysFinal "PennyMoreModel" "PennyMoreModel" "film" "[I") ∈ mm_G := mm_gi_5 (i := 154) rfl rfl
theorem gw_1285 : (Jvm.Cond.lays "PennyMoreModel" "PennyMoreModel" "shops" "I") ∈ mm_G := mm_gi_5 (i := 156) rfl rfl
theorem gw_1286 : (Jvm.Cond.lays "PennyMoreModel" "PennyMoreModel" "holding" "I") ∈ mm_G := mm_gi_5 (i := 158) rfl rfl
theorem gw_1287 : (Jvm.Cond.laysFinal "PennyMoreModel" "PennyMoreModel" "clauses" "[I") ∈ mm_G := mm_gi_5 (i := 160) rfl rfl
theorem gw_1288 : (Jvm.Cond.laysFinal "PennyMoreModel" "PennyMoreModel" "clauseWord" "[I") ∈ mm_G := mm_gi_5 (i := 162) rfl rfl
theorem gw_1289 : (Jvm.Cond.laysFinal "PennyMoreModel" "PennyMoreModel" "clauseN" "[I") ∈ mm_G := mm_gi_5 (i := 164) rfl rfl
theorem gw_1290 : (Jvm.Cond.laysFinal "PennyMoreModel" "PennyMoreModel" "clauseFrom" "[I") ∈ mm_G := mm_gi_5 (i := 166) rfl rfl
theorem gw_1291 : (Jvm.Cond.laysFinal "PennyMoreModel" "PennyMoreModel" "clauseTo" "[I") ∈ mm_G := mm_gi_5 (i := 168) rfl rfl
theorem gw_1292 : (Jvm.Cond.laysFinal "PennyMoreModel" "PennyMoreModel" "codes" "[I") ∈ mm_G := mm_gi_5 (i := 170) rfl rfl
theorem gw_1293 : (Jvm.Cond.laysFinal "PennyMoreModel" "PennyMoreModel" "text" "[I") ∈ mm_G := mm_gi_5 (i := 172) rfl rfl
theorem gw_1294 : (Jvm.Cond.lays "PennyMoreModel" "PennyMoreModel" "written" "I") ∈ mm_G := mm_gi_5 (i := 174) rfl rfl
theorem gw_1295 : (Jvm.Cond.lays "PennyMoreModel" "PennyMoreModel" "feeFor" "I") ∈ mm_G := mm_gi_5 (i := 176) rfl rfl
theorem gw_1296 : (Jvm.Cond.lays "PennyMoreModel" "PennyMoreModel" "ran" "I") ∈ mm_G := mm_gi_5 (i := 178) rfl rfl
theorem gw_1297 : (Jvm.Cond.laysFinal "PennyMoreModel" "PennyMoreModel" "trace" "[I") ∈ mm_G := mm_gi_5 (i := 180) rfl rfl
theorem gw_1298 : (Jvm.Cond.laysFinal "PennyMoreModel" "PennyMoreModel" "tapeSort" "[I") ∈ mm_G := mm_gi_5 (i := 182) rfl rfl
theorem gw_1299 : (Jvm.Cond.laysFinal "PennyMoreModel" "PennyMoreModel" "tapeSize" "[I") ∈ mm_G := mm_gi_5 (i := 184) rfl rfl
theorem gw_1300 : (Jvm.Cond.laysFinal "PennyMoreModel" "PennyMoreModel" "items" "[J") ∈ mm_G := mm_gi_5 (i := 186) rfl rfl
theorem gw_1301 : (Jvm.Cond.laysFinal "PennyMoreModel" "PennyMoreModel" "words" "[I") ∈ mm_G := mm_gi_5 (i := 188) rfl rfl
theorem gw_1302 : (Jvm.Cond.laysFinal "PennyMoreModel" "PennyMoreModel" "wordLong" "[I") ∈ mm_G := mm_gi_5 (i := 190) rfl rfl
theorem gw_1303 : (Jvm.Cond.laysFinal "PennyMoreModel" "PennyMoreModel" "letters" "[I") ∈ mm_G := mm_gi_5 (i := 192) rfl rfl
theorem gw_1304 : (Jvm.Cond.lays "PennyMoreModel" "PennyMoreModel" "at0" "I") ∈ mm_G := mm_gi_5 (i := 194) rfl rfl
theorem gw_1305 : (Jvm.Cond.lays "PennyMoreModel" "PennyMoreModel" "coded" "I") ∈ mm_G := mm_gi_5 (i := 196) rfl rfl
theorem gw_1306 : (Jvm.Cond.laysFinal "PennyMoreModel" "PennyMoreModel" "waits" "[I") ∈ mm_G := mm_gi_5 (i := 198) rfl rfl
theorem gw_1307 : (Jvm.Cond.lays "PennyMoreModel" "PennyMoreModel" "waitMany" "I") ∈ mm_G := mm_gi_5 (i := 200) rfl rfl
theorem gw_1308 : (Jvm.Cond.lays "PennyMoreModel" "PennyMoreModel" "opened" "I") ∈ mm_G := mm_gi_5 (i := 202) rfl rfl
theorem gw_1309 : (Jvm.Cond.laysFinal "PennyMoreModel" "PennyMoreModel" "stack" "[Z") ∈ mm_G := mm_gi_5 (i := 204) rfl rfl
theorem gw_1310 : (Jvm.Cond.lays "PennyMoreModel" "PennyMoreModel" "bought" "I") ∈ mm_G := mm_gi_5 (i := 206) rfl rfl
theorem gw_1311 : (Jvm.Cond.lays "PennyMoreModel" "PennyMoreModel" "refused" "I") ∈ mm_G := mm_gi_5 (i := 208) rfl rfl
theorem gw_1312 : (Jvm.Cond.laysFinal "PennyMoreModel" "PennyMoreModel" "keptRow" "[I") ∈ mm_G := mm_gi_5 (i := 210) rfl rfl
theorem gw_1313 : (Jvm.Cond.laysFinal "PennyMoreModel" "PennyMoreModel" "keptAways" "[I") ∈ mm_G := mm_gi_5 (i := 212) rfl rfl
theorem gw_1314 : (Jvm.Cond.laysFinal "PennyMoreModel" "PennyMoreModel" "keptGained" "[I") ∈ mm_G := mm_gi_5 (i := 214) rfl rfl
theorem gw_1315 : (Jvm.Cond.lays "PennyMoreModel" "PennyMoreModel" "keptIn" "I") ∈ mm_G := mm_gi_5 (i := 216) rfl rfl
theorem gw_1316 : (Jvm.Cond.lays "PennyMoreModel" "PennyMoreModel" "keptPrice" "I") ∈ mm_G := mm_gi_5 (i := 218) rfl rfl
theorem gw_1317 : (Jvm.Cond.lays "PennyMoreModel" "PennyMoreModel" "keptLoaves" "I") ∈ mm_G := mm_gi_5 (i := 220) rfl rfl
theorem gw_1318 : (Jvm.Cond.lays "PennyMoreModel" "PennyMoreModel" "keptTill" "I") ∈ mm_G := mm_gi_5 (i := 222) rfl rfl
theorem gw_1319 : (Jvm.Cond.lays "PennyMoreModel" "PennyMoreModel" "keptTurns" "I") ∈ mm_G := mm_gi_5 (i := 224) rfl rfl
theorem gw_1320 : (Jvm.Cond.laysFinal "PennyMoreModel" "PennyMoreModel" "sorted" "[I") ∈ mm_G := mm_gi_5 (i := 226) rfl rfl
theorem gw_1321 : (Jvm.Cond.lays "PennyMoreModel" "PennyMoreModel" "sureAbove" "J") ∈ mm_G := mm_gi_5 (i := 228) rfl rfl
theorem gw_1322 : (Jvm.Cond.lays "PennyMoreModel" "PennyMoreModel" "tooLong" "Z") ∈ mm_G := mm_gi_5 (i := 230) rfl rfl
theorem gw_1323 : (Jvm.Cond.laysFinal "PennyMoreModel" "PennyMoreModel" "deepRow" "[I") ∈ mm_G := mm_gi_5 (i := 232) rfl rfl
theorem gw_1324 : (Jvm.Cond.laysFinal "PennyMoreModel" "PennyMoreModel" "deepAways" "[I") ∈ mm_G := mm_gi_5 (i := 234) rfl rfl
theorem gw_1325 : (Jvm.Cond.laysFinal "PennyMoreModel" "PennyMoreModel" "deepGained" "[I") ∈ mm_G := mm_gi_5 (i := 236) rfl rfl
theorem gw_1326 : (Jvm.Cond.laysFinal "PennyMoreModel" "PennyMoreModel" "deepNumbers" "[I") ∈ mm_G := mm_gi_5 (i := 238) rfl rfl
theorem gw_1327 : (Jvm.Cond.lays "PennyMoreModel" "PennyMoreModel" "hasImage" "Z") ∈ mm_G := mm_gi_6 (i := 0) rfl rfl
theorem gw_1328 : (Jvm.Cond.lays "PennyMoreModel" "PennyMoreModel" "imageBuyers" "I") ∈ mm_G := mm_gi_6 (i := 2) rfl rfl
theorem gw_1329 : (Jvm.Cond.lays "PennyMoreModel" "PennyMoreModel" "imageOdds" "I") ∈ mm_G := mm_gi_6 (i := 4) rfl rfl
theorem gw_1330 : (Jvm.Cond.lays "PennyMoreModel" "PennyMoreModel" "imageFilmed" "I") ∈ mm_G := mm_gi_6 (i := 6) rfl rfl
theorem gw_1331 : (Jvm.Cond.lays "PennyMoreModel" "PennyMoreModel" "imageHolding" "I") ∈ mm_G := mm_gi_6 (i := 8) rfl rfl
theorem gw_1332 : (Jvm.Cond.laysFinal "PennyMoreModel" "PennyMoreModel" "imageKind" "[I") ∈ mm_G := mm_gi_6 (i := 10) rfl rfl
theorem gw_1333 : (Jvm.Cond.laysFinal "PennyMoreModel" "PennyMoreModel" "imageNumber" "[I") ∈ mm_G := mm_gi_6 (i := 12) rfl rfl
theorem gw_1334 : (Jvm.Cond.laysFinal "PennyMoreModel" "PennyMoreModel" "imageWorth" "[I") ∈ mm_G := mm_gi_6 (i := 14) rfl rfl
theorem gw_1335 : (Jvm.Cond.laysFinal "PennyMoreModel" "PennyMoreModel" "imageFriend" "[I") ∈ mm_G := mm_gi_6 (i := 16) rfl rfl
theorem gw_1336 : (Jvm.Cond.laysFinal "PennyMoreModel" "PennyMoreModel" "imageAways" "[I") ∈ mm_G := mm_gi_6 (i := 18) rfl rfl
theorem gw_1337 : (Jvm.Cond.laysFinal "PennyMoreModel" "PennyMoreModel" "imageGained" "[I") ∈ mm_G := mm_gi_6 (i := 20) rfl rfl
theorem gw_1338 : (Jvm.Cond.laysFinal "PennyMoreModel" "PennyMoreModel" "imageTells" "[I") ∈ mm_G := mm_gi_6 (i := 22) rfl rfl
theorem gw_1339 : (Jvm.Cond.laysFinal "PennyMoreModel" "PennyMoreModel" "imageRow" "[I") ∈ mm_G := mm_gi_6 (i := 24) rfl rfl
theorem gw_1340 : (Jvm.Cond.laysFinal "PennyMoreModel" "PennyMoreModel" "imageNumbers" "[I") ∈ mm_G := mm_gi_6 (i := 26) rfl rfl
theorem gw_1341 : (Jvm.Cond.laysFinal "PennyMoreModel" "PennyMoreModel" "imageFilm" "[I") ∈ mm_G := mm_gi_6 (i := 28) rfl rfl
theorem gw_1342 : (Jvm.Cond.lays "PennyMoreModel" "PennyMoreModel" "acting" "I") ∈ mm_G := mm_gi_6 (i := 30) rfl rfl
theorem gw_1343 : (Jvm.Cond.laysFinal "PennyMoreModel" "PennyMoreModel" "shifted" "[J") ∈ mm_G := mm_gi_6 (i := 32) rfl rfl
theorem gw_1344 : (Jvm.Cond.classLink "PennyMore$Day" (9 : Nat) "PennyMore$Buyer") ∈ mm_G := mm_gi_1 (i := 89) rfl rfl
theorem gw_1345 : (Jvm.Cond.arrayClass Jvm.ClassFile.FieldType.int) ∈ mm_G := mm_gi_1 (i := 82) rfl rfl
theorem gw_1346 : (Jvm.Cond.arrayClass Jvm.ClassFile.FieldType.long) ∈ mm_G := mm_gi_1 (i := 219) rfl rfl
theorem gw_1347 : (Jvm.Cond.arrayClass Jvm.ClassFile.FieldType.boolean) ∈ mm_G := mm_gi_6 (i := 35) rfl rfl
theorem gw_1348 : (Jvm.Cond.constant "PennyMore" (123 : Nat) (-100001 : Int32)) ∈ mm_G := mm_gi_2 (i := 186) rfl rfl
theorem gw_1349 : (Jvm.Cond.constant "PennyMore" (254 : Nat) (-100003 : Int32)) ∈ mm_G := mm_gi_4 (i := 100) rfl rfl
theorem gw_1350 : (Jvm.Cond.constant "PennyMoreModel" (183 : Nat) (-100001 : Int32)) ∈ mm_G := mm_gi_6 (i := 79) rfl rfl
theorem gw_1351 : (Jvm.Cond.constant "PennyMoreModel" (335 : Nat) (-100003 : Int32)) ∈ mm_G := mm_gi_7 (i := 26) rfl rfl
theorem gw_1352 : (Jvm.Cond.constantLong "PennyMore" (224 : Nat) (-9223372036854775808 : Int64)) ∈ mm_G := mm_gi_4 (i := 75) rfl rfl
theorem gw_1353 : (Jvm.Cond.constantLong "PennyMoreModel" (329 : Nat) (-9223372036854775808 : Int64)) ∈ mm_G := mm_gi_7 (i := 10) rfl rfl
theorem gw_1354 : (Jvm.Cond.constantLong "PennyMoreModel" (354 : Nat) (10 : Int64)) ∈ mm_G := mm_gi_7 (i := 48) rfl rfl
theorem gw_1355 : (Jvm.Cond.constantLong "PennyMoreModel" (363 : Nat) (1000000000000 : Int64)) ∈ mm_G := mm_gi_7 (i := 39) rfl rfl
theorem gw_1356 : (Jvm.Cond.constantLong "PennyMoreLaw" (147 : Nat) (4294967295 : Int64)) ∈ mm_G := mm_gi_7 (i := 131) rfl rfl
theorem gw_1357 : (Jvm.Cond.fieldLink "java/lang/String" (38 : Nat) "java/lang/String" "COMPACT_STRINGS" "Z") ∈ mm_G := mm_gi_3 (i := 15) rfl rfl
theorem gw_1358 : (Jvm.Cond.fieldLink "java/lang/String" (1053 : Nat) "jdk/internal/util/Preconditions" "SIOOBE_FORMATTER" "Ljava/util/function/BiFunction;") ∈ mm_G := mm_gi_3 (i := 31) rfl rfl
theorem gw_1359 : (Jvm.Cond.fieldLink "java/lang/String" (9 : Nat) "java/lang/String" "value" "[B") ∈ mm_G := mm_gi_7 (i := 145) rfl rfl
theorem gw_1360 : (Jvm.Cond.fieldLink "java/lang/String" (15 : Nat) "java/lang/String" "coder" "B") ∈ mm_G := mm_gi_7 (i := 146) rfl rfl
end
section
theorem mm_FL_0_ok : ∀ e ∈ mm_FL_0, mm_okF e := List.forall_mem_cons.mpr ⟨⟨"PennyMore$Buyer", gw_0, Or.inl rfl, by decide +kernel, by decide +kernel, by decide +kernel, Or.inr ⟨rfl, rfl⟩⟩, List.forall_mem_cons.mpr ⟨⟨"PennyMore$Buyer", gw_1, Or.inl rfl, by decide +kernel, by decide +kernel, by decide +kernel, Or.inr ⟨rfl, rfl⟩⟩, List.forall_mem_cons.mpr ⟨⟨"PennyMore$Buyer", gw_2, Or.inl rfl, by decide +kernel, by decide +kernel, by decide +kernel, Or.inr ⟨rfl, rfl⟩⟩, List.forall_mem_cons.mpr ⟨⟨"PennyMore$Buyer", gw_3, Or.inl rfl, by decide +kernel, by decide +kernel, by decide +kernel, Or.inr ⟨rfl, rfl⟩⟩, List.forall_mem_cons.mpr ⟨⟨"PennyMore$Day", gw_4, Or.inl rfl, by decide +kernel, by decide +kernel, by decide +kernel, Or.inr ⟨rfl, rfl⟩⟩, List.forall_mem_cons.mpr ⟨⟨"PennyMore$Day", gw_5, Or.inl rfl, by decide +kernel, by decide +kernel, by decide +kernel, Or.inr ⟨rfl, rfl⟩⟩, List.forall_mem_cons.mpr ⟨⟨"PennyMore$Day", gw_6, Or.inl rfl, by decide +kernel, by decide +kernel, by decide +kernel, Or.inr ⟨rfl, rfl⟩⟩, List.forall_mem_cons.mpr ⟨⟨"PennyMore$Day", gw_7, Or.inl rfl, by decide +kernel, by decide +kernel, by decide +kernel, Or.inr ⟨rfl, rfl⟩⟩, List.forall_mem_cons.mpr ⟨⟨"PennyMore$Day", gw_8, Or.inl rfl, by decide +kernel, by decide +kernel, by decide +kernel, Or.inr ⟨rfl, rfl⟩⟩, List.forall_mem_cons.mpr ⟨⟨"PennyMore$Day", gw_9, Or.inl rfl, by decide +kernel, by decide +kernel, by decide +kernel, Or.inr ⟨rfl, rfl⟩⟩, List.forall_mem_cons.mpr ⟨⟨"PennyMore$Day", gw_10, Or.inl rfl, by decide +kernel, by decide +kernel, by decide +kernel, Or.inr ⟨rfl, rfl⟩⟩, List.forall_mem_cons.mpr ⟨⟨"PennyMore$Day", gw_11, Or.inl rfl, by decide +kernel, by decide +kernel, by decide +kernel, Or.inr ⟨rfl, rfl⟩⟩, List.forall_mem_cons.mpr ⟨⟨"PennyMore$Day", gw_12, Or.inl rfl, by decide +kernel, by decide +kernel, by decide +kernel, Or.inl ⟨rfl, rfl⟩⟩, List.forall_mem_cons.mpr ⟨⟨"PennyMore$Day", gw_13, Or.inl rfl, by decide +kernel, by decide +kernel, by decide +kernel, Or.inl ⟨rfl, rfl⟩⟩, List.forall_mem_cons.mpr ⟨⟨"PennyMore$Day", gw_14, Or.inl rfl, by decide +kernel, by decide +kernel, by decide +kernel, Or.inl ⟨rfl, rfl⟩⟩, List.forall_mem_cons.mpr ⟨⟨"PennyMore$Shop", gw_15, Or.inl rfl, by decide +kernel, by decide +kernel, by decide +kernel, Or.inl ⟨rfl, rfl⟩⟩, List.forall_mem_cons.mpr ⟨⟨"PennyMore$Day", gw_16, Or.inl rfl, by decide +kernel, by decide +kernel, by decide +kernel, Or.inl ⟨rfl, rfl⟩⟩, List.forall_mem_cons.mpr ⟨⟨"PennyMore$Day", gw_17, Or.inl rfl, by decide +kernel, by decide +kernel, by decide +kernel, Or.inl ⟨rfl, rfl⟩⟩, List.forall_mem_cons.mpr ⟨⟨"PennyMore$Day", gw_18, Or.inl rfl, by decide +kernel, by decide +kernel, by decide +kernel, Or.inl ⟨rfl, rfl⟩⟩, List.forall_mem_cons.mpr ⟨⟨"PennyMore$Day", gw_19, Or.inl rfl, by decide +kernel, by decide +kernel, by decide +kernel, Or.inl ⟨rfl, rfl⟩⟩, List.forall_mem_cons.mpr ⟨⟨"PennyMore$Day", gw_20, Or.inl rfl, by decide +kernel, by decide +kernel, by decide +kernel, Or.inl ⟨rfl, rfl⟩⟩, List.forall_mem_cons.mpr ⟨⟨"PennyMore$Day", gw_21, Or.inl rfl, by decide +kernel, by decide +kernel, by decide +kernel, Or.inl ⟨rfl, rfl⟩⟩, List.forall_mem_cons.mpr ⟨⟨"PennyMore$Day", gw_22, Or.inl rfl, by decide +kernel, by decide +kernel, by decide +kernel, Or.inl ⟨rfl, rfl⟩⟩, List.forall_mem_cons.mpr ⟨⟨"PennyMore$Shop", gw_23, Or.inl rfl, by decide +kernel, by decide +kernel, by decide +kernel, Or.inl ⟨rfl, rfl⟩⟩, List.forall_mem_cons.mpr ⟨⟨"PennyMore$Day", gw_24, Or.inl rfl, by decide +kernel, by decide +kernel, by decide +kernel, Or.inl ⟨rfl, rfl⟩⟩, fun _ h => absurd h List.not_mem_nil⟩⟩⟩⟩⟩⟩⟩⟩⟩⟩⟩⟩⟩⟩⟩⟩⟩⟩⟩⟩⟩⟩⟩⟩⟩
theorem mm_FL_1_ok : ∀ e ∈ mm_FL_1, mm_okF e := List.forall_mem_cons.mpr ⟨⟨"PennyMore$Day", gw_25, Or.inl rfl, by decide +kernel, by decide +kernel, by decide +kernel, Or.inl ⟨rfl, rfl⟩⟩, List.forall_mem_cons.mpr ⟨⟨"PennyMore$Buyer", gw_26, Or.inl rfl, by decide +kernel, by decide +kernel, by decide +kernel, Or.inr ⟨rfl, rfl⟩⟩, List.forall_mem_cons.mpr ⟨⟨"PennyMore$Buyer", gw_27, Or.inl rfl, by decide +kernel, by decide +kernel, by decide +kernel, Or.inr ⟨rfl, rfl⟩⟩, List.forall_mem_cons.mpr ⟨⟨"PennyMore$Shop", gw_28, Or.inl rfl, by decide +kernel, by decide +kernel, by decide +kernel, Or.inl ⟨rfl, rfl⟩⟩, List.forall_mem_cons.mpr ⟨⟨"PennyMore$Shop", gw_29, Or.inl rfl, by decide +kernel, by decide +kernel, by decide +kernel, Or.inl ⟨rfl, rfl⟩⟩, List.forall_mem_cons.mpr ⟨⟨"PennyMore$Day", gw_30, Or.inl rfl, by decide +kernel, by decide +kernel, by decide +kernel, Or.inl ⟨rfl, rfl⟩⟩, List.forall_mem_cons.mpr ⟨⟨"PennyMore$Falling", gw_32, Or.inr gw_31, by decide +kernel, by decide +kernel, by decide +kernel, Or.inr ⟨rfl, rfl⟩⟩, List.forall_mem_cons.mpr ⟨⟨"PennyMore$Falling", gw_34, Or.inr gw_33, by decide +kernel, by decide +kernel, by decide +kernel, Or.inr ⟨rfl, rfl⟩⟩, List.forall_mem_cons.mpr ⟨⟨"PennyMore$Day", gw_35, Or.inl rfl, by decide +kernel, by decide +kernel, by decide +kernel, Or.inl ⟨rfl, rfl⟩⟩, List.forall_mem_cons.mpr ⟨⟨"PennyMore$Late", gw_37, Or.inr gw_36, by decide +kernel, by decide +kernel, by decide +kernel, Or.inr ⟨rfl, rfl⟩⟩, List.forall_mem_cons.mpr ⟨⟨"PennyMore$Late", gw_39, Or.inr gw_38, by decide +kernel, by decide +kernel, by decide +kernel, Or.inr ⟨rfl, rfl⟩⟩, List.forall_mem_cons.mpr ⟨⟨"PennyMore$Plain", gw_41, Or.inr gw_40, by decide +kernel, by decide +kernel, by decide +kernel, Or.inr ⟨rfl, rfl⟩⟩, List.forall_mem_cons.mpr ⟨⟨"PennyMore$Reader", gw_42, Or.inl rfl, by decide +kernel, by decide +kernel, by decide +kernel, Or.inr ⟨rfl, rfl⟩⟩, List.forall_mem_cons.mpr ⟨⟨"PennyMore$Reader", gw_43, Or.inl rfl, by decide +kernel, by decide +kernel, by decide +kernel, Or.inl ⟨rfl, rfl⟩⟩, List.forall_mem_cons.mpr ⟨⟨"PennyMore$Reader", gw_44, Or.inl rfl, by decide +kernel, by decide +kernel, by decide +kernel, Or.inl ⟨rfl, rfl⟩⟩, List.forall_mem_cons.mpr ⟨⟨"PennyMore$Reader", gw_45, Or.inl rfl, by decide +kernel, by decide +kernel, by decide +kernel, Or.inl ⟨rfl, rfl⟩⟩, List.forall_mem_cons.mpr ⟨⟨"PennyMore$Shop", gw_46, Or.inl rfl, by decide +kernel, by decide +kernel, by decide +kernel, Or.inl ⟨rfl, rfl⟩⟩, List.forall_mem_cons.mpr ⟨⟨"PennyMore$Shop", gw_47, Or.inl rfl, by decide +kernel, by decide +kernel, by decide +kernel, Or.inl ⟨rfl, rfl⟩⟩, List.forall_mem_cons.mpr ⟨⟨"PennyMore$Shop", gw_48, Or.inl rfl, by decide +kernel, by decide +kernel, by decide +kernel, Or.inl ⟨rfl, rfl⟩⟩, List.forall_mem_cons.mpr ⟨⟨"PennyMore$Shop", gw_49, Or.inl rfl, by decide +kernel, by decide +kernel, by decide +kernel, Or.inl ⟨rfl, rfl⟩⟩, List.forall_mem_cons.mpr ⟨⟨"PennyMore$Shop", gw_50, Or.inl rfl, by decide +kernel, by decide +kernel, by decide +kernel, Or.inr ⟨rfl, rfl⟩⟩, List.forall_mem_cons.mpr ⟨⟨"PennyMore$Shop", gw_51, Or.inl rfl, by decide +kernel, by decide +kernel, by decide +kernel, Or.inr ⟨rfl, rfl⟩⟩, List.forall_mem_cons.mpr ⟨⟨"PennyMore$Shop", gw_52, Or.inl rfl, by decide +kernel, by decide +kernel, by decide +kernel, Or.inr ⟨rfl, rfl⟩⟩, List.forall_mem_cons.mpr ⟨⟨"PennyMore$Shop", gw_53, Or.inl rfl, by decide +kernel, by decide +kernel, by decide +kernel, Or.inr ⟨rfl, rfl⟩⟩, List.forall_mem_cons.mpr ⟨⟨"PennyMore$Shop", gw_54, Or.inl rfl, by decide +kernel, by decide +kernel, by decide +kernel, Or.inl ⟨rfl, rfl⟩⟩, fun _ h => absurd h List.not_mem_nil⟩⟩⟩⟩⟩⟩⟩⟩⟩⟩⟩⟩⟩⟩⟩⟩⟩⟩⟩⟩⟩⟩⟩⟩⟩
theorem mm_FL_2_ok : ∀ e ∈ mm_FL_2, mm_okF e := List.forall_mem_cons.mpr ⟨⟨"PennyMore$Shop", gw_55, Or.inl rfl, by decide +kernel, by decide +kernel, by decide +kernel, Or.inl ⟨rfl, rfl⟩⟩, List.forall_mem_cons.mpr ⟨⟨"PennyMore$Shop", gw_56, Or.inl rfl, by decide +kernel, by decide +kernel, by decide +kernel, Or.inl ⟨rfl, rfl⟩⟩, List.forall_mem_cons.mpr ⟨⟨"PennyMore$Shop", gw_57, Or.inl rfl, by decide +kernel, by decide +kernel, by decide +kernel, Or.inl ⟨rfl, rfl⟩⟩, List.forall_mem_cons.mpr ⟨⟨"PennyMore$Shop", gw_58, Or.inl rfl, by decide +kernel, by decide +kernel, by decide +kernel, Or.inl ⟨rfl, rfl⟩⟩, List.forall_mem_cons.mpr ⟨⟨"PennyMore$Shop", gw_59, Or.inl rfl, by decide +kernel, by decide +kernel, by decide +kernel, Or.inl ⟨rfl, rfl⟩⟩, List.forall_mem_cons.mpr ⟨⟨"PennyMore$Day", gw_60, Or.inl rfl, by decide +kernel, by decide +kernel, by decide +kernel, Or.inl ⟨rfl, rfl⟩⟩, List.forall_mem_cons.mpr ⟨⟨"PennyMore$Sure", gw_62, Or.inr gw_61, by decide +kernel, by decide +kernel, by decide +kernel, Or.inr ⟨rfl, rfl⟩⟩, List.forall_mem_cons.mpr ⟨⟨"PennyMore$Tape", gw_63, Or.inl rfl, by decide +kernel, by decide +kernel, by decide +kernel, Or.inr ⟨rfl, rfl⟩⟩, List.forall_mem_cons.mpr ⟨⟨"PennyMore$Tape", gw_64, Or.inl rfl, by decide +kernel, by decide +kernel, by decide +kernel, Or.inl ⟨rfl, rfl⟩⟩, List.forall_mem_cons.mpr ⟨⟨"PennyMore$Tape", gw_65, Or.inl rfl, by decide +kernel, by decide +kernel, by decide +kernel, Or.inl ⟨rfl, rfl⟩⟩, List.forall_mem_cons.mpr ⟨⟨"PennyMore$Day", gw_66, Or.inl rfl, by decide +kernel, by decide +kernel, by decide +kernel, Or.inr ⟨rfl, rfl⟩⟩, List.forall_mem_cons.mpr ⟨⟨"PennyMore$Told", gw_68, Or.inr gw_67, by decide +kernel, by decide +kernel, by decide +kernel, Or.inr ⟨rfl, rfl⟩⟩, List.forall_mem_cons.mpr ⟨⟨"PennyMore$Day", gw_69, Or.inl rfl, by decide +kernel, by decide +kernel, by decide +kernel, Or.inl ⟨rfl, rfl⟩⟩, List.forall_mem_cons.mpr ⟨⟨"PennyMore$Told", gw_71, Or.inr gw_70, by decide +kernel, by decide +kernel, by decide +kernel, Or.inr ⟨rfl, rfl⟩⟩, List.forall_mem_cons.mpr ⟨⟨"PennyMore$Day", gw_72, Or.inl rfl, by decide +kernel, by decide +kernel, by decide +kernel, Or.inl ⟨rfl, rfl⟩⟩, List.forall_mem_cons.mpr ⟨⟨"PennyMore$Day", gw_73, Or.inl rfl, by decide +kernel, by decide +kernel, by decide +kernel, Or.inl ⟨rfl, rfl⟩⟩, List.forall_mem_cons.mpr ⟨⟨"PennyMore$Waiting", gw_75, Or.inr gw_74, by decide +kernel, by decide +kernel, by decide +kernel, Or.inr ⟨rfl, rfl⟩⟩, List.forall_mem_cons.mpr ⟨⟨"PennyMore", gw_76, Or.inl rfl, by decide +kernel, by decide +kernel, by decide +kernel, Or.inr ⟨rfl, rfl⟩⟩, List.forall_mem_cons.mpr ⟨⟨"PennyMore", gw_77, Or.inl rfl, by decide +kernel, by decide +kernel, by decide +kernel, Or.inr ⟨rfl, rfl⟩⟩, List.forall_mem_cons.mpr ⟨⟨"PennyMore", gw_78, Or.inl rfl, by decide +kernel, by decide +kernel, by decide +kernel, Or.inr ⟨rfl, rfl⟩⟩, List.forall_mem_cons.mpr ⟨⟨"PennyMore", gw_79, Or.inl rfl, by decide +kernel, by decide +kernel, by decide +kernel, Or.inr ⟨rfl, rfl⟩⟩, List.forall_mem_cons.mpr ⟨⟨"PennyMore", gw_80, Or.inl rfl, by decide +kernel, by decide +kernel, by decide +kernel, Or.inr ⟨rfl, rfl⟩⟩, List.forall_mem_cons.mpr ⟨⟨"PennyMore", gw_81, Or.inl rfl, by decide +kernel, by decide +kernel, by decide +kernel, Or.inr ⟨rfl, rfl⟩⟩, List.forall_mem_cons.mpr ⟨⟨"PennyMore", gw_82, Or.inl rfl, by decide +kernel, by decide +kernel, by decide +kernel, Or.inr ⟨rfl, rfl⟩⟩, List.forall_mem_cons.mpr ⟨⟨"PennyMore", gw_83, Or.inl rfl, by decide +kernel, by decide +kernel, by decide +kernel, Or.inr ⟨rfl, rfl⟩⟩, fun _ h => absurd h List.not_mem_nil⟩⟩⟩⟩⟩⟩⟩⟩⟩⟩⟩⟩⟩⟩⟩⟩⟩⟩⟩⟩⟩⟩⟩⟩⟩
theorem mm_FL_3_ok : ∀ e ∈ mm_FL_3, mm_okF e := List.forall_mem_cons.mpr ⟨⟨"PennyMore", gw_84, Or.inl rfl, by decide +kernel, by decide +kernel, by decide +kernel, Or.inr ⟨rfl, rfl⟩⟩, List.forall_mem_cons.mpr ⟨⟨"PennyMore", gw_85, Or.inl rfl, by decide +kernel, by decide +kernel, by decide +kernel, Or.inr ⟨rfl, rfl⟩⟩, List.forall_mem_cons.mpr ⟨⟨"PennyMore", gw_86, Or.inl rfl, by decide +kernel, by decide +kernel, by decide +kernel, Or.inr ⟨rfl, rfl⟩⟩, List.forall_mem_cons.mpr ⟨⟨"PennyMore$Day", gw_87, Or.inl rfl, by decide +kernel, by decide +kernel, by decide +kernel, Or.inl ⟨rfl, rfl⟩⟩, List.forall_mem_cons.mpr ⟨⟨"PennyMore$Day", gw_88, Or.inl rfl, by decide +kernel, by decide +kernel, by decide +kernel, Or.inr ⟨rfl, rfl⟩⟩, List.forall_mem_cons.mpr ⟨⟨"PennyMore$Buyer", gw_89, Or.inl rfl, by decide +kernel, by decide +kernel, by decide +kernel, Or.inr ⟨rfl, rfl⟩⟩, List.forall_mem_cons.mpr ⟨⟨"PennyMore$Buyer", gw_90, Or.inl rfl, by decide +kernel, by decide +kernel, by decide +kernel, Or.inr ⟨rfl, rfl⟩⟩, List.forall_mem_cons.mpr ⟨⟨"PennyMore$Buyer", gw_91, Or.inl rfl, by decide +kernel, by decide +kernel, by decide +kernel, Or.inr ⟨rfl, rfl⟩⟩, List.forall_mem_cons.mpr ⟨⟨"PennyMore$Day", gw_92, Or.inl rfl, by decide +kernel, by decide +kernel, by decide +kernel, Or.inr ⟨rfl, rfl⟩⟩, List.forall_mem_cons.mpr ⟨⟨"PennyMore$Day", gw_93, Or.inl rfl, by decide +kernel, by decide +kernel, by decide +kernel, Or.inr ⟨rfl, rfl⟩⟩, List.forall_mem_cons.mpr ⟨⟨"PennyMore$Day", gw_94, Or.inl rfl, by decide +kernel, by decide +kernel, by decide +kernel, Or.inl ⟨rfl, rfl⟩⟩, List.forall_mem_cons.mpr ⟨⟨"PennyMore$Day", gw_95, Or.inl rfl, by decide +kernel, by decide +kernel, by decide +kernel, Or.inl ⟨rfl, rfl⟩⟩, List.forall_mem_cons.mpr ⟨⟨"PennyMore$Day", gw_96, Or.inl rfl, by decide +kernel, by decide +kernel, by decide +kernel, Or.inr ⟨rfl, rfl⟩⟩, List.forall_mem_cons.mpr ⟨⟨"PennyMore$Day", gw_97, Or.inl rfl, by decide +kernel, by decide +kernel, by decide +kernel, Or.inr ⟨rfl, rfl⟩⟩, List.forall_mem_cons.mpr ⟨⟨"PennyMore$Day", gw_98, Or.inl rfl, by decide +kernel, by decide +kernel, by decide +kernel, Or.inl ⟨rfl, rfl⟩⟩, List.forall_mem_cons.mpr ⟨⟨"PennyMore$Day", gw_99, Or.inl rfl, by decide +kernel, by decide +kernel, by decide +kernel, Or.inl ⟨rfl, rfl⟩⟩, List.forall_mem_cons.mpr ⟨⟨"PennyMore$Reader", gw_100, Or.inl rfl, by decide +kernel, by decide +kernel, by decide +kernel, Or.inl ⟨rfl, rfl⟩⟩, List.forall_mem_cons.mpr ⟨⟨"PennyMore", gw_101, Or.inl rfl, by decide +kernel, by decide +kernel, by decide +kernel, Or.inl ⟨rfl, rfl⟩⟩, List.forall_mem_cons.mpr ⟨⟨"PennyMore$Day", gw_102, Or.inl rfl, by decide +kernel, by decide +kernel, by decide +kernel, Or.inl ⟨rfl, rfl⟩⟩, List.forall_mem_cons.mpr ⟨⟨"PennyMore$Shop", gw_103, Or.inl rfl, by decide +kernel, by decide +kernel, by decide +kernel, Or.inl ⟨rfl, rfl⟩⟩, List.forall_mem_cons.mpr ⟨⟨"PennyMore$Shop", gw_104, Or.inl rfl, by decide +kernel, by decide +kernel, by decide +kernel, Or.inl ⟨rfl, rfl⟩⟩, List.forall_mem_cons.mpr ⟨⟨"PennyMore$Shop", gw_105, Or.inl rfl, by decide +kernel, by decide +kernel, by decide +kernel, Or.inl ⟨rfl, rfl⟩⟩, List.forall_mem_cons.mpr ⟨⟨"PennyMore$Shop", gw_106, Or.inl rfl, by decide +kernel, by decide +kernel, by decide +kernel, Or.inl ⟨rfl, rfl⟩⟩, List.forall_mem_cons.mpr ⟨⟨"PennyMore$Day", gw_107, Or.inl rfl, by decide +kernel, by decide +kernel, by decide +kernel, Or.inl ⟨rfl, rfl⟩⟩, List.forall_mem_cons.mpr ⟨⟨"PennyMore$Day", gw_108, Or.inl rfl, by decide +kernel, by decide +kernel, by decide +kernel, Or.inl ⟨rfl, rfl⟩⟩, fun _ h => absurd h List.not_mem_nil⟩⟩⟩⟩⟩⟩⟩⟩⟩⟩⟩⟩⟩⟩⟩⟩⟩⟩⟩⟩⟩⟩⟩⟩⟩
theorem mm_FL_4_ok : ∀ e ∈ mm_FL_4, mm_okF e := List.forall_mem_cons.mpr ⟨⟨"PennyMore$Day", gw_109, Or.inl rfl, by decide +kernel, by decide +kernel, by decide +kernel, Or.inl ⟨rfl, rfl⟩⟩, List.forall_mem_cons.mpr ⟨⟨"PennyMore$Day", gw_110, Or.inl rfl, by decide +kernel, by decide +kernel, by decide +kernel, Or.inr ⟨rfl, rfl⟩⟩, List.forall_mem_cons.mpr ⟨⟨"PennyMore$Day", gw_111, Or.inl rfl, by decide +kernel, by decide +kernel, by decide +kernel, Or.inl ⟨rfl, rfl⟩⟩, List.forall_mem_cons.mpr ⟨⟨"PennyMore$Day", gw_112, Or.inl rfl, by decide +kernel, by decide +kernel, by decide +kernel, Or.inl ⟨rfl, rfl⟩⟩, List.forall_mem_cons.mpr ⟨⟨"PennyMore$Day", gw_113, Or.inl rfl, by decide +kernel, by decide +kernel, by decide +kernel, Or.inr ⟨rfl, rfl⟩⟩, List.forall_mem_cons.mpr ⟨⟨"PennyMore$Tape", gw_114, Or.inl rfl, by decide +kernel, by decide +kernel, by decide +kernel, Or.inl ⟨rfl, rfl⟩⟩, List.forall_mem_cons.mpr ⟨⟨"PennyMore$Tape", gw_115, Or.inl rfl, by decide +kernel, by decide +kernel, by decide +kernel, Or.inl ⟨rfl, rfl⟩⟩, List.forall_mem_cons.mpr ⟨⟨"PennyMore$Tape", gw_116, Or.inl rfl, by decide +kernel, by decide +kernel, by decide +kernel, Or.inr ⟨rfl, rfl⟩⟩, List.forall_mem_cons.mpr ⟨⟨"PennyMore", gw_117, Or.inl rfl, by decide +kernel, by decide +kernel, by decide +kernel, Or.inl ⟨rfl, rfl⟩⟩, List.forall_mem_cons.mpr ⟨⟨"PennyMore$Day", gw_118, Or.inl rfl, by decide +kernel, by decide +kernel, by decide +kernel, Or.inl ⟨rfl, rfl⟩⟩, List.forall_mem_cons.mpr ⟨⟨"PennyMoreModel", gw_119, Or.inl rfl, by decide +kernel, by decide +kernel, by decide +kernel, Or.inr ⟨rfl, rfl⟩⟩, List.forall_mem_cons.mpr ⟨⟨"PennyMoreModel", gw_120, Or.inl rfl, by decide +kernel, by decide +kernel, by decide +kernel, Or.inr ⟨rfl, rfl⟩⟩, List.forall_mem_cons.mpr ⟨⟨"PennyMoreModel", gw_121, Or.inl rfl, by decide +kernel, by decide +kernel, by decide +kernel, Or.inr ⟨rfl, rfl⟩⟩, List.forall_mem_cons.mpr ⟨⟨"PennyMoreModel", gw_122, Or.inl rfl, by decide +kernel, by decide +kernel, by decide +kernel, Or.inr ⟨rfl, rfl⟩⟩, List.forall_mem_cons.mpr ⟨⟨"PennyMoreModel", gw_123, Or.inl rfl, by decide +kernel, by decide +kernel, by decide +kernel, Or.inr ⟨rfl, rfl⟩⟩, List.forall_mem_cons.mpr ⟨⟨"PennyMoreModel", gw_124, Or.inl rfl, by decide +kernel, by decide +kernel, by decide +kernel, Or.inr ⟨rfl, rfl⟩⟩, List.forall_mem_cons.mpr ⟨⟨"PennyMoreModel", gw_125, Or.inl rfl, by decide +kernel, by decide +kernel, by decide +kernel, Or.inr ⟨rfl, rfl⟩⟩, List.forall_mem_cons.mpr ⟨⟨"PennyMoreModel", gw_126, Or.inl rfl, by decide +kernel, by decide +kernel, by decide +kernel, Or.inr ⟨rfl, rfl⟩⟩, List.forall_mem_cons.mpr ⟨⟨"PennyMoreModel", gw_127, Or.inl rfl, by decide +kernel, by decide +kernel, by decide +kernel, Or.inl ⟨rfl, rfl⟩⟩, List.forall_mem_cons.mpr ⟨⟨"PennyMoreModel", gw_128, Or.inl rfl, by decide +kernel, by decide +kernel, by decide +kernel, Or.inl ⟨rfl, rfl⟩⟩, List.forall_mem_cons.mpr ⟨⟨"PennyMoreModel", gw_129, Or.inl rfl, by decide +kernel, by decide +kernel, by decide +kernel, Or.inr ⟨rfl, rfl⟩⟩, List.forall_mem_cons.mpr ⟨⟨"PennyMoreModel", gw_130, Or.inl rfl, by decide +kernel, by decide +kernel, by decide +kernel, Or.inl ⟨rfl, rfl⟩⟩, List.forall_mem_cons.mpr ⟨⟨"PennyMoreModel", gw_131, Or.inl rfl, by decide +kernel, by decide +kernel, by decide +kernel, Or.inr ⟨rfl, rfl⟩⟩, List.forall_mem_cons.mpr ⟨⟨"PennyMoreModel", gw_132, Or.inl rfl, by decide +kernel, by decide +kernel, by decide +kernel, Or.inr ⟨rfl, rfl⟩⟩, List.forall_mem_cons.mpr ⟨⟨"PennyMoreModel", gw_133, Or.inl rfl, by decide +kernel, by decide +kernel, by decide +kernel, Or.inr ⟨rfl, rfl⟩⟩, fun _ h => absurd h List.not_mem_nil⟩⟩⟩⟩⟩⟩⟩⟩⟩⟩⟩⟩⟩⟩⟩⟩⟩⟩⟩⟩⟩⟩⟩⟩⟩
theorem mm_FL_5_ok : ∀ e ∈ mm_FL_5, mm_okF e := List.forall_mem_cons.mpr ⟨⟨"PennyMoreModel", gw_134, Or.inl rfl, by decide +kernel, by decide +kernel, by decide +kernel, Or.inr ⟨rfl, rfl⟩⟩, List.forall_mem_cons.mpr ⟨⟨"PennyMoreModel", gw_135, Or.inl rfl, by decide +kernel, by decide +kernel, by decide +kernel, Or.inr ⟨rfl, rfl⟩⟩, List.forall_mem_cons.mpr ⟨⟨"PennyMoreModel", gw_136, Or.inl rfl, by decide +kernel, by decide +kernel, by decide +kernel, Or.inr ⟨rfl, rfl⟩⟩, List.forall_mem_cons.mpr ⟨⟨"PennyMoreModel", gw_137, Or.inl rfl, by decide +kernel, by decide +kernel, by decide +kernel, Or.inr ⟨rfl, rfl⟩⟩, List.forall_mem_cons.mpr ⟨⟨"PennyMoreModel", gw_138, Or.inl rfl, by decide +kernel, by decide +kernel, by decide +kernel, Or.inl ⟨rfl, rfl⟩⟩, List.forall_mem_cons.mpr ⟨⟨"PennyMoreModel", gw_139, Or.inl rfl, by decide +kernel, by decide +kernel, by decide +kernel, Or.inr ⟨rfl, rfl⟩⟩, List.forall_mem_cons.mpr ⟨⟨"PennyMoreModel", gw_140, Or.inl rfl, by decide +kernel, by decide +kernel, by decide +kernel, Or.inr ⟨rfl, rfl⟩⟩, List.forall_mem_cons.mpr ⟨⟨"PennyMoreModel", gw_141, Or.inl rfl, by decide +kernel, by decide +kernel, by decide +kernel, Or.inr ⟨rfl, rfl⟩⟩, List.forall_mem_cons.mpr ⟨⟨"PennyMoreModel", gw_142, Or.inl rfl, by decide +kernel, by decide +kernel, by decide +kernel, Or.inr ⟨rfl, rfl⟩⟩, List.forall_mem_cons.mpr ⟨⟨"PennyMoreModel", gw_143, Or.inl rfl, by decide +kernel, by decide +kernel, by decide +kernel, Or.inr ⟨rfl, rfl⟩⟩, List.forall_mem_cons.mpr ⟨⟨"PennyMoreModel", gw_144, Or.inl rfl, by decide +kernel, by decide +kernel, by decide +kernel, Or.inr ⟨rfl, rfl⟩⟩, List.forall_mem_cons.mpr ⟨⟨"PennyMoreModel", gw_145, Or.inl rfl, by decide +kernel, by decide +kernel, by decide +kernel, Or.inr ⟨rfl, rfl⟩⟩, List.forall_mem_cons.mpr ⟨⟨"PennyMoreModel", gw_146, Or.inl rfl, by decide +kernel, by decide +kernel, by decide +kernel, Or.inr ⟨rfl, rfl⟩⟩, List.forall_mem_cons.mpr ⟨⟨"PennyMoreModel", gw_147, Or.inl rfl, by decide +kernel, by decide +kernel, by decide +kernel, Or.inr ⟨rfl, rfl⟩⟩, List.forall_mem_cons.mpr ⟨⟨"PennyMoreModel", gw_148, Or.inl rfl, by decide +kernel, by decide +kernel, by decide +kernel, Or.inr ⟨rfl, rfl⟩⟩, List.forall_mem_cons.mpr ⟨⟨"PennyMoreModel", gw_149, Or.inl rfl, by decide +kernel, by decide +kernel, by decide +kernel, Or.inr ⟨rfl, rfl⟩⟩, List.forall_mem_cons.mpr ⟨⟨"PennyMoreModel", gw_150, Or.inl rfl, by decide +kernel, by decide +kernel, by decide +kernel, Or.inr ⟨rfl, rfl⟩⟩, List.forall_mem_cons.mpr ⟨⟨"PennyMoreModel", gw_151, Or.inl rfl, by decide +kernel, by decide +kernel, by decide +kernel, Or.inr ⟨rfl, rfl⟩⟩, List.forall_mem_cons.mpr ⟨⟨"PennyMoreModel", gw_152, Or.inl rfl, by decide +kernel, by decide +kernel, by decide +kernel, Or.inr ⟨rfl, rfl⟩⟩, List.forall_mem_cons.mpr ⟨⟨"PennyMoreModel", gw_153, Or.inl rfl, by decide +kernel, by decide +kernel, by decide +kernel, Or.inr ⟨rfl, rfl⟩⟩, List.forall_mem_cons.mpr ⟨⟨"PennyMoreModel", gw_154, Or.inl rfl, by decide +kernel, by decide +kernel, by decide +kernel, Or.inr ⟨rfl, rfl⟩⟩, List.forall_mem_cons.mpr ⟨⟨"PennyMoreModel", gw_155, Or.inl rfl, by decide +kernel, by decide +kernel, by decide +kernel, Or.inr ⟨rfl, rfl⟩⟩, List.forall_mem_cons.mpr ⟨⟨"PennyMoreModel", gw_156, Or.inl rfl, by decide +kernel, by decide +kernel, by decide +kernel, Or.inr ⟨rfl, rfl⟩⟩, List.forall_mem_cons.mpr ⟨⟨"PennyMoreModel", gw_157, Or.inl rfl, by decide +kernel, by decide +kernel, by decide +kernel, Or.inr ⟨rfl, rfl⟩⟩, List.forall_mem_cons.mpr ⟨⟨"PennyMoreModel", gw_158, Or.inl rfl, by decide +kernel, by decide +kernel, by decide +kernel, Or.inr ⟨rfl, rfl⟩⟩, fun _ h => absurd h List.not_mem_nil⟩⟩⟩⟩⟩⟩⟩⟩⟩⟩⟩⟩⟩⟩⟩⟩⟩⟩⟩⟩⟩⟩⟩⟩⟩
theorem mm_FL_6_ok : ∀ e ∈ mm_FL_6, mm_okF e := List.forall_mem_cons.mpr ⟨⟨"PennyMoreModel", gw_159, Or.inl rfl, by decide +kernel, by decide +kernel, by decide +kernel, Or.inr ⟨rfl, rfl⟩⟩, List.forall_mem_cons.mpr ⟨⟨"PennyMoreModel", gw_160, Or.inl rfl, by decide +kernel, by decide +kernel, by decide +kernel, Or.inr ⟨rfl, rfl⟩⟩, List.forall_mem_cons.mpr ⟨⟨"PennyMoreModel", gw_161, Or.inl rfl, by decide +kernel, by decide +kernel, by decide +kernel, Or.inr ⟨rfl, rfl⟩⟩, List.forall_mem_cons.mpr ⟨⟨"PennyMoreModel", gw_162, Or.inl rfl, by decide +kernel, by decide +kernel, by decide +kernel, Or.inr ⟨rfl, rfl⟩⟩, List.forall_mem_cons.mpr ⟨⟨"PennyMoreModel", gw_163, Or.inl rfl, by decide +kernel, by decide +kernel, by decide +kernel, Or.inr ⟨rfl, rfl⟩⟩, List.forall_mem_cons.mpr ⟨⟨"PennyMoreModel", gw_164, Or.inl rfl, by decide +kernel, by decide +kernel, by decide +kernel, Or.inr ⟨rfl, rfl⟩⟩, List.forall_mem_cons.mpr ⟨⟨"PennyMoreModel", gw_165, Or.inl rfl, by decide +kernel, by decide +kernel, by decide +kernel, Or.inr ⟨rfl, rfl⟩⟩, List.forall_mem_cons.mpr ⟨⟨"PennyMoreModel", gw_166, Or.inl rfl, by decide +kernel, by decide +kernel, by decide +kernel, Or.inr ⟨rfl, rfl⟩⟩, List.forall_mem_cons.mpr ⟨⟨"PennyMoreModel", gw_167, Or.inl rfl, by decide +kernel, by decide +kernel, by decide +kernel, Or.inl ⟨rfl, rfl⟩⟩, List.forall_mem_cons.mpr ⟨⟨"PennyMoreModel", gw_168, Or.inl rfl, by decide +kernel, by decide +kernel, by decide +kernel, Or.inl ⟨rfl, rfl⟩⟩, List.forall_mem_cons.mpr ⟨⟨"PennyMoreModel", gw_169, Or.inl rfl, by decide +kernel, by decide +kernel, by decide +kernel, Or.inl ⟨rfl, rfl⟩⟩, List.forall_mem_cons.mpr ⟨⟨"PennyMoreModel", gw_170, Or.inl rfl, by decide +kernel, by decide +kernel, by decide +kernel, Or.inl ⟨rfl, rfl⟩⟩, List.forall_mem_cons.mpr ⟨⟨"PennyMoreModel", gw_171, Or.inl rfl, by decide +kernel, by decide +kernel, by decide +kernel, Or.inl ⟨rfl, rfl⟩⟩, List.forall_mem_cons.mpr ⟨⟨"PennyMoreModel", gw_172, Or.inl rfl, by decide +kernel, by decide +kernel, by decide +kernel, Or.inl ⟨rfl, rfl⟩⟩, List.forall_mem_cons.mpr ⟨⟨"PennyMoreModel", gw_173, Or.inl rfl, by decide +kernel, by decide +kernel, by decide +kernel, Or.inl ⟨rfl, rfl⟩⟩, List.forall_mem_cons.mpr ⟨⟨"PennyMoreModel", gw_174, Or.inl rfl, by decide +kernel, by decide +kernel, by decide +kernel, Or.inl ⟨rfl, rfl⟩⟩, List.forall_mem_cons.mpr ⟨⟨"PennyMoreModel", gw_175, Or.inl rfl, by decide +kernel, by decide +kernel, by decide +kernel, Or.inl ⟨rfl, rfl⟩⟩, List.forall_mem_cons.mpr ⟨⟨"PennyMoreModel", gw_176, Or.inl rfl, by decide +kernel, by decide +kernel, by decide +kernel, Or.inl ⟨rfl, rfl⟩⟩, List.forall_mem_cons.mpr ⟨⟨"PennyMoreModel", gw_177, Or.inl rfl, by decide +kernel, by decide +kernel, by decide +kernel, Or.inl ⟨rfl, rfl⟩⟩, List.forall_mem_cons.mpr ⟨⟨"PennyMoreModel", gw_178, Or.inl rfl, by decide +kernel, by decide +kernel, by decide +kernel, Or.inl ⟨rfl, rfl⟩⟩, List.forall_mem_cons.mpr ⟨⟨"PennyMoreModel", gw_179, Or.inl rfl, by decide +kernel, by decide +kernel, by decide +kernel, Or.inl ⟨rfl, rfl⟩⟩, List.forall_mem_cons.mpr ⟨⟨"PennyMoreModel", gw_180, Or.inl rfl, by decide +kernel, by decide +kernel, by decide +kernel, Or.inl ⟨rfl, rfl⟩⟩, List.forall_mem_cons.mpr ⟨⟨"PennyMoreModel", gw_181, Or.inl rfl, by decide +kernel, by decide +kernel, by decide +kernel, Or.inl ⟨rfl, rfl⟩⟩, List.forall_mem_cons.mpr ⟨⟨"PennyMoreModel", gw_182, Or.inl rfl, by decide +kernel, by decide +kernel, by decide +kernel, Or.inl ⟨rfl, rfl⟩⟩, List.forall_mem_cons.mpr ⟨⟨"PennyMoreModel", gw_183, Or.inl rfl, by decide +kernel, by decide +kernel, by decide +kernel, Or.inl ⟨rfl, rfl⟩⟩, fun _ h => absurd h List.not_mem_nil⟩⟩⟩⟩⟩⟩⟩⟩⟩⟩⟩⟩⟩⟩⟩⟩⟩⟩⟩⟩⟩⟩⟩⟩⟩
theorem mm_FL_7_ok : ∀ e ∈ mm_FL_7, mm_okF e := List.forall_mem_cons.mpr ⟨⟨"PennyMoreModel", gw_184, Or.inl rfl, by decide +kernel, by decide +kernel, by decide +kernel, Or.inl ⟨rfl, rfl⟩⟩, List.forall_mem_cons.mpr ⟨⟨"PennyMoreModel", gw_185, Or.inl rfl, by decide +kernel, by decide +kernel, by decide +kernel, Or.inl ⟨rfl, rfl⟩⟩, List.forall_mem_cons.mpr ⟨⟨"PennyMoreModel", gw_186, Or.inl rfl, by decide +kernel, by decide +kernel, by decide +kernel, Or.inl ⟨rfl, rfl⟩⟩, List.forall_mem_cons.mpr ⟨⟨"PennyMoreModel", gw_187, Or.inl rfl, by decide +kernel, by decide +kernel, by decide +kernel, Or.inl ⟨rfl, rfl⟩⟩, List.forall_mem_cons.mpr ⟨⟨"PennyMoreModel", gw_188, Or.inl rfl, by decide +kernel, by decide +kernel, by decide +kernel, Or.inl ⟨rfl, rfl⟩⟩, List.forall_mem_cons.mpr ⟨⟨"PennyMoreModel", gw_189, Or.inl rfl, by decide +kernel, by decide +kernel, by decide +kernel, Or.inl ⟨rfl, rfl⟩⟩, List.forall_mem_cons.mpr ⟨⟨"PennyMoreModel", gw_190, Or.inl rfl, by decide +kernel, by decide +kernel, by decide +kernel, Or.inl ⟨rfl, rfl⟩⟩, List.forall_mem_cons.mpr ⟨⟨"PennyMoreModel", gw_191, Or.inl rfl, by decide +kernel, by decide +kernel, by decide +kernel, Or.inl ⟨rfl, rfl⟩⟩, List.forall_mem_cons.mpr ⟨⟨"PennyMoreModel", gw_192, Or.inl rfl, by decide +kernel, by decide +kernel, by decide +kernel, Or.inl ⟨rfl, rfl⟩⟩, List.forall_mem_cons.mpr ⟨⟨"PennyMoreModel", gw_193, Or.inl rfl, by decide +kernel, by decide +kernel, by decide +kernel, Or.inl ⟨rfl, rfl⟩⟩, List.forall_mem_cons.mpr ⟨⟨"PennyMoreModel", gw_194, Or.inl rfl, by decide +kernel, by decide +kernel, by decide +kernel, Or.inl ⟨rfl, rfl⟩⟩, fun _ h => absurd h List.not_mem_nil⟩⟩⟩⟩⟩⟩⟩⟩⟩⟩⟩
theorem mm_FL_ok : ∀ e ∈ mm_FL, mm_okF e := List.forall_mem_append.mpr ⟨mm_FL_0_ok, List.forall_mem_append.mpr ⟨mm_FL_1_ok, List.forall_mem_append.mpr ⟨mm_FL_2_ok, List.forall_mem_append.mpr ⟨mm_FL_3_ok, List.forall_mem_append.mpr ⟨mm_FL_4_ok, List.forall_mem_append.mpr ⟨mm_FL_5_ok, List.forall_mem_append.mpr ⟨mm_FL_6_ok, mm_FL_7_ok⟩⟩⟩⟩⟩⟩⟩
theorem mm_mt_0_ok : ∀ t ∈ mm_mt_0, mm_okT t := List.forall_mem_cons.mpr ⟨⟨gw_234, by decide +kernel, by decide +kernel, by decide +kernel, by decide +kernel, by decide +kernel⟩, List.forall_mem_cons.mpr ⟨⟨gw_233, by decide +kernel, by decide +kernel, by decide +kernel, by decide +kernel, by decide +kernel⟩, List.forall_mem_cons.mpr ⟨⟨gw_232, by decide +kernel, by decide +kernel, by decide +kernel, by decide +kernel, by decide +kernel⟩, List.forall_mem_cons.mpr ⟨⟨gw_231, by decide +kernel, by decide +kernel, by decide +kernel, by decide +kernel, by decide +kernel⟩, List.forall_mem_cons.mpr ⟨⟨gw_230, by decide +kernel, by decide +kernel, by decide +kernel, by decide +kernel, by decide +kernel⟩, List.forall_mem_cons.mpr ⟨⟨gw_229, by decide +kernel, by decide +kernel, by decide +kernel, by decide +kernel, by decide +kernel⟩, List.forall_mem_cons.mpr ⟨⟨gw_228, by decide +kernel, by decide +kernel, by decide +kernel, by decide +kernel, by decide +kernel⟩, List.forall_mem_cons.mpr ⟨⟨gw_227, by decide +kernel, by decide +kernel, by decide +kernel, by decide +kernel, by decide +kernel⟩, List.forall_mem_cons.mpr ⟨⟨gw_226, by decide +kernel, by decide +kernel, by decide +kernel, by decide +kernel, by decide +kernel⟩, List.forall_mem_cons.mpr ⟨⟨gw_225, by decide +kernel, by decide +kernel, by decide +kernel, by decide +kernel, by decide +kernel⟩, List.forall_mem_cons.mpr ⟨⟨gw_224, by decide +kernel, by decide +kernel, by decide +kernel, by decide +kernel, by decide +kernel⟩, List.forall_mem_cons.mpr ⟨⟨gw_223, by decide +kernel, by decide +kernel, by decide +kernel, by decide +kernel, by decide +kernel⟩, List.forall_mem_cons.mpr ⟨⟨gw_222, by decide +kernel, by decide +kernel, by decide +kernel, by decide +kernel, by decide +kernel⟩, List.forall_mem_cons.mpr ⟨⟨gw_221, by decide +kernel, by decide +kernel, by decide +kernel, by decide +kernel, by decide +kernel⟩, List.forall_mem_cons.mpr ⟨⟨gw_220, by decide +kernel, by decide +kernel, by decide +kernel, by decide +kernel, by decide +kernel⟩, List.forall_mem_cons.mpr ⟨⟨gw_219, by decide +kernel, by decide +kernel, by decide +kernel, by decide +kernel, by decide +kernel⟩, List.forall_mem_cons.mpr ⟨⟨gw_218, by decide +kernel, by decide +kernel, by decide +kernel, by decide +kernel, by decide +kernel⟩, List.forall_mem_cons.mpr ⟨⟨gw_217, by decide +kernel, by decide +kernel, by decide +kernel, by decide +kernel, by decide +kernel⟩, List.forall_mem_cons.mpr ⟨⟨gw_216, by decide +kernel, by decide +kernel, by decide +kernel, by decide +kernel, by decide +kernel⟩, List.forall_mem_cons.mpr ⟨⟨gw_215, by decide +kernel, by decide +kernel, by decide +kernel, by decide +kernel, by decide +kernel⟩, List.forall_mem_cons.mpr ⟨⟨gw_214, by decide +kernel, by decide +kernel, by decide +kernel, by decide +kernel, by decide +kernel⟩, List.forall_mem_cons.mpr ⟨⟨gw_213, by decide +kernel, by decide +kernel, by decide +kernel, by decide +kernel, by decide +kernel⟩, List.forall_mem_cons.mpr ⟨⟨gw_212, by decide +kernel, by decide +kernel, by decide +kernel, by decide +kernel, by decide +kernel⟩, List.forall_mem_cons.mpr ⟨⟨gw_211, by decide +kernel, by decide +kernel, by decide +kernel, by decide +kernel, by decide +kernel⟩, List.forall_mem_cons.mpr ⟨⟨gw_210, by decide +kernel, by decide +kernel, by decide +kernel, by decide +kernel, by decide +kernel⟩, List.forall_mem_cons.mpr ⟨⟨gw_209, by decide +kernel, by decide +kernel, by decide +kernel, by decide +kernel, by decide +kernel⟩, List.forall_mem_cons.mpr ⟨⟨gw_208, by decide +kernel, by decide +kernel, by decide +kernel, by decide +kernel, by decide +kernel⟩, List.forall_mem_cons.mpr ⟨⟨gw_207, by decide +kernel, by decide +kernel, by decide +kernel, by decide +kernel, by decide +kernel⟩, List.forall_mem_cons.mpr ⟨⟨gw_206, by decide +kernel, by decide +kernel, by decide +kernel, by decide +kernel, by decide +kernel⟩, List.forall_mem_cons.mpr ⟨⟨gw_205, by decide +kernel, by decide +kernel, by decide +kernel, by decide +kernel, by decide +kernel⟩, List.forall_mem_cons.mpr ⟨⟨gw_204, by decide +kernel, by decide +kernel, by decide +kernel, by decide +kernel, by decide +kernel⟩, List.forall_mem_cons.mpr ⟨⟨gw_203, by decide +kernel, by decide +kernel, by decide +kernel, by decide +kernel, by decide +kernel⟩, List.forall_mem_cons.mpr ⟨⟨gw_202, by decide +kernel, by decide +kernel, by decide +kernel, by decide +kernel, by decide +kernel⟩, List.forall_mem_cons.mpr ⟨⟨gw_201, by decide +kernel, by decide +kernel, by decide +kernel, by decide +kernel, by decide +kernel⟩, List.forall_mem_cons.mpr ⟨⟨gw_200, by decide +kernel, by decide +kernel, by decide +kernel, by decide +kernel, by decide +kernel⟩, List.forall_mem_cons.mpr ⟨⟨gw_199, by decide +kernel, by decide +kernel, by decide +kernel, by decide +kernel, by decide +kernel⟩, List.forall_mem_cons.mpr ⟨⟨gw_198, by decide +kernel, by decide +kernel, by decide +kernel, by decide +kernel, by decide +kernel⟩, List.forall_mem_cons.mpr ⟨⟨gw_197, by decide +kernel, by decide +kernel, by decide +kernel, by decide +kernel, by decide +kernel⟩, List.forall_mem_cons.mpr ⟨⟨gw_196, by decide +kernel, by decide +kernel, by decide +kernel, by decide +kernel, by decide +kernel⟩, List.forall_mem_cons.mpr ⟨⟨gw_195, by decide +kernel, by decide +kernel, by decide +kernel, by decide +kernel, by decide +kernel⟩, fun _ h => absurd h List.not_mem_nil⟩⟩⟩⟩⟩⟩⟩⟩⟩⟩⟩⟩⟩⟩⟩⟩⟩⟩⟩⟩⟩⟩⟩⟩⟩⟩⟩⟩⟩⟩⟩⟩⟩⟩⟩⟩⟩⟩⟩⟩
theorem mm_mt_1_ok : ∀ t ∈ mm_mt_1, mm_okT t := List.forall_mem_cons.mpr ⟨⟨gw_274, by decide +kernel, by decide +kernel, by decide +kernel, by decide +kernel, by decide +kernel⟩, List.forall_mem_cons.mpr ⟨⟨gw_273, by decide +kernel, by decide +kernel, by decide +kernel, by decide +kernel, by decide +kernel⟩, List.forall_mem_cons.mpr ⟨⟨gw_272, by decide +kernel, by decide +kernel, by decide +kernel, by decide +kernel, by decide +kernel⟩, List.forall_mem_cons.mpr ⟨⟨gw_271, by decide +kernel, by decide +kernel, by decide +kernel, by decide +kernel, by decide +kernel⟩, List.forall_mem_cons.mpr ⟨⟨gw_270, by decide +kernel, by decide +kernel, by decide +kernel, by decide +kernel, by decide +kernel⟩, List.forall_mem_cons.mpr ⟨⟨gw_269, by decide +kernel, by decide +kernel, by decide +kernel, by decide +kernel, by decide +kernel⟩, List.forall_mem_cons.mpr ⟨⟨gw_268, by decide +kernel, by decide +kernel, by decide +kernel, by decide +kernel, by decide +kernel⟩, List.forall_mem_cons.mpr ⟨⟨gw_267, by decide +kernel, by decide +kernel, by decide +kernel, by decide +kernel, by decide +kernel⟩, List.forall_mem_cons.mpr ⟨⟨gw_266, by decide +kernel, by decide +kernel, by decide +kernel, by decide +kernel, by decide +kernel⟩, List.forall_mem_cons.mpr ⟨⟨gw_265, by decide +kernel, by decide +kernel, by decide +kernel, by decide +kernel, by decide +kernel⟩, List.forall_mem_cons.mpr ⟨⟨gw_264, by decide +kernel, by decide +kernel, by decide +kernel, by decide +kernel, by decide +kernel⟩, List.forall_mem_cons.mpr ⟨⟨gw_263, by decide +kernel, by decide +kernel, by decide +kernel, by decide +kernel, by decide +kernel⟩, List.forall_mem_cons.mpr ⟨⟨gw_262, by decide +kernel, by decide +kernel, by decide +kernel, by decide +kernel, by decide +kernel⟩, List.forall_mem_cons.mpr ⟨⟨gw_261, by decide +kernel, by decide +kernel, by decide +kernel, by decide +kernel, by decide +kernel⟩, List.forall_mem_cons.mpr ⟨⟨gw_260, by decide +kernel, by decide +kernel, by decide +kernel, by decide +kernel, by decide +kernel⟩, List.forall_mem_cons.mpr ⟨⟨gw_259, by decide +kernel, by decide +kernel, by decide +kernel, by decide +kernel, by decide +kernel⟩, List.forall_mem_cons.mpr ⟨⟨gw_258, by decide +kernel, by decide +kernel, by decide +kernel, by decide +kernel, by decide +kernel⟩, List.forall_mem_cons.mpr ⟨⟨gw_257, by decide +kernel, by decide +kernel, by decide +kernel, by decide +kernel, by decide +kernel⟩, List.forall_mem_cons.mpr ⟨⟨gw_256, by decide +kernel, by decide +kernel, by decide +kernel, by decide +kernel, by decide +kernel⟩, List.forall_mem_cons.mpr ⟨⟨gw_255, by decide +kernel, by decide +kernel, by decide +kernel, by decide +kernel, by decide +kernel⟩, List.forall_mem_cons.mpr ⟨⟨gw_254, by decide +kernel, by decide +kernel, by decide +kernel, by decide +kernel, by decide +kernel⟩, List.forall_mem_cons.mpr ⟨⟨gw_253, by decide +kernel, by decide +kernel, by decide +kernel, by decide +kernel, by decide +kernel⟩, List.forall_mem_cons.mpr ⟨⟨gw_252, by decide +kernel, by decide +kernel, by decide +kernel, by decide +kernel, by decide +kernel⟩, List.forall_mem_cons.mpr ⟨⟨gw_251, by decide +kernel, by decide +kernel, by decide +kernel, by decide +kernel, by decide +kernel⟩, List.forall_mem_cons.mpr ⟨⟨gw_250, by decide +kernel, by decide +kernel, by decide +kernel, by decide +kernel, by decide +kernel⟩, List.forall_mem_cons.mpr ⟨⟨gw_249, by decide +kernel, by decide +kernel, by decide +kernel, by decide +kernel, by decide +kernel⟩, List.forall_mem_cons.mpr ⟨⟨gw_248, by decide +kernel, by decide +kernel, by decide +kernel, by decide +kernel, by decide +kernel⟩, List.forall_mem_cons.mpr ⟨⟨gw_247, by decide +kernel, by decide +kernel, by decide +kernel, by decide +kernel, by decide +kernel⟩, List.forall_mem_cons.mpr ⟨⟨gw_246, by decide +kernel, by decide +kernel, by decide +kernel, by decide +kernel, by decide +kernel⟩, List.forall_mem_cons.mpr ⟨⟨gw_245, by decide +kernel, by decide +kernel, by decide +kernel, by decide +kernel, by decide +kernel⟩, List.forall_mem_cons.mpr ⟨⟨gw_244, by decide +kernel, by decide +kernel, by decide +kernel, by decide +kernel, by decide +kernel⟩, List.forall_mem_cons.mpr ⟨⟨gw_243, by decide +kernel, by decide +kernel, by decide +kernel, by decide +kernel, by decide +kernel⟩, List.forall_mem_cons.mpr ⟨⟨gw_242, by decide +kernel, by decide +kernel, by decide +kernel, by decide +kernel, by decide +kernel⟩, List.forall_mem_cons.mpr ⟨⟨gw_241, by decide +kernel, by decide +kernel, by decide +kernel, by decide +kernel, by decide +kernel⟩, List.forall_mem_cons.mpr ⟨⟨gw_240, by decide +kernel, by decide +kernel, by decide +kernel, by decide +kernel, by decide +kernel⟩, List.forall_mem_cons.mpr ⟨⟨gw_239, by decide +kernel, by decide +kernel, by decide +kernel, by decide +kernel, by decide +kernel⟩, List.forall_mem_cons.mpr ⟨⟨gw_238, by decide +kernel, by decide +kernel, by decide +kernel, by decide +kernel, by decide +kernel⟩, List.forall_mem_cons.mpr ⟨⟨gw_237, by decide +kernel, by decide +kernel, by decide +kernel, by decide +kernel, by decide +kernel⟩, List.forall_mem_cons.mpr ⟨⟨gw_236, by decide +kernel, by decide +kernel, by decide +kernel, by decide +kernel, by decide +kernel⟩, List.forall_mem_cons.mpr ⟨⟨gw_235, by decide +kernel, by decide +kernel, by decide +kernel, by decide +kernel, by decide +kernel⟩, fun _ h => absurd h List.not_mem_nil⟩⟩⟩⟩⟩⟩⟩⟩⟩⟩⟩⟩⟩⟩⟩⟩⟩⟩⟩⟩⟩⟩⟩⟩⟩⟩⟩⟩⟩⟩⟩⟩⟩⟩⟩⟩⟩⟩⟩⟩
theorem mm_mt_2_ok : ∀ t ∈ mm_mt_2, mm_okT t := List.forall_mem_cons.mpr ⟨⟨gw_314, by decide +kernel, by decide +kernel, by decide +kernel, by decide +kernel, by decide +kernel⟩, List.forall_mem_cons.mpr ⟨⟨gw_313, by decide +kernel, by decide +kernel, by decide +kernel, by decide +kernel, by decide +kernel⟩, List.forall_mem_cons.mpr ⟨⟨gw_312, by decide +kernel, by decide +kernel, by decide +kernel, by decide +kernel, by decide +kernel⟩, List.forall_mem_cons.mpr ⟨⟨gw_311, by decide +kernel, by decide +kernel, by decide +kernel, by decide +kernel, by decide +kernel⟩, List.forall_mem_cons.mpr ⟨⟨gw_310, by decide +kernel, by decide +kernel, by decide +kernel, by decide +kernel, by decide +kernel⟩, List.forall_mem_cons.mpr ⟨⟨gw_309, by decide +kernel, by decide +kernel, by decide +kernel, by decide +kernel, by decide +kernel⟩, List.forall_mem_cons.mpr ⟨⟨gw_308, by decide +kernel, by decide +kernel, by decide +kernel, by decide +kernel, by decide +kernel⟩, List.forall_mem_cons.mpr ⟨⟨gw_307, by decide +kernel, by decide +kernel, by decide +kernel, by decide +kernel, by decide +kernel⟩, List.forall_mem_cons.mpr ⟨⟨gw_306, by decide +kernel, by decide +kernel, by decide +kernel, by decide +kernel, by decide +kernel⟩, List.forall_mem_cons.mpr ⟨⟨gw_305, by decide +kernel, by decide +kernel, by decide +kernel, by decide +kernel, by decide +kernel⟩, List.forall_mem_cons.mpr ⟨⟨gw_304, by decide +kernel, by decide +kernel, by decide +kernel, by decide +kernel, by decide +kernel⟩, List.forall_mem_cons.mpr ⟨⟨gw_303, by decide +kernel, by decide +kernel, by decide +kernel, by decide +kernel, by decide +kernel⟩, List.forall_mem_cons.mpr ⟨⟨gw_302, by decide +kernel, by decide +kernel, by decide +kernel, by decide +kernel, by decide +kernel⟩, List.forall_mem_cons.mpr ⟨⟨gw_301, by decide +kernel, by decide +kernel, by decide +kernel, by decide +kernel, by decide +kernel⟩, List.forall_mem_cons.mpr ⟨⟨gw_300, by decide +kernel, by decide +kernel, by decide +kernel, by decide +kernel, by decide +kernel⟩, List.forall_mem_cons.mpr ⟨⟨gw_299, by decide +kernel, by decide +kernel, by decide +kernel, by decide +kernel, by decide +kernel⟩, List.forall_mem_cons.mpr ⟨⟨gw_298, by decide +kernel, by decide +kernel, by decide +kernel, by decide +kernel, by decide +kernel⟩, List.forall_mem_cons.mpr ⟨⟨gw_297, by decide +kernel, by decide +kernel, by decide +kernel, by decide +kernel, by decide +kernel⟩, List.forall_mem_cons.mpr ⟨⟨gw_296, by decide +kernel, by decide +kernel, by decide +kernel, by decide +kernel, by decide +kernel⟩, List.forall_mem_cons.mpr ⟨⟨gw_295, by decide +kernel, by decide +kernel, by decide +kernel, by decide +kernel, by decide +kernel⟩, List.forall_mem_cons.mpr ⟨⟨gw_294, by decide +kernel, by decide +kernel, by decide +kernel, by decide +kernel, by decide +kernel⟩, List.forall_mem_cons.mpr ⟨⟨gw_293, by decide +kernel, by decide +kernel, by decide +kernel, by decide +kernel, by decide +kernel⟩, List.forall_mem_cons.mpr ⟨⟨gw_292, by decide +kernel, by decide +kernel, by decide +kernel, by decide +kernel, by decide +kernel⟩, List.forall_mem_cons.mpr ⟨⟨gw_291, by decide +kernel, by decide +kernel, by decide +kernel, by decide +kernel, by decide +kernel⟩, List.forall_mem_cons.mpr ⟨⟨gw_290, by decide +kernel, by decide +kernel, by decide +kernel, by decide +kernel, by decide +kernel⟩, List.forall_mem_cons.mpr ⟨⟨gw_289, by decide +kernel, by decide +kernel, by decide +kernel, by decide +kernel, by decide +kernel⟩, List.forall_mem_cons.mpr ⟨⟨gw_288, by decide +kernel, by decide +kernel, by decide +kernel, by decide +kernel, by decide +kernel⟩, List.forall_mem_cons.mpr ⟨⟨gw_287, by decide +kernel, by decide +kernel, by decide +kernel, by decide +kernel, by decide +kernel⟩, List.forall_mem_cons.mpr ⟨⟨gw_286, by decide +kernel, by decide +kernel, by decide +kernel, by decide +kernel, by decide +kernel⟩, List.forall_mem_cons.mpr ⟨⟨gw_285, by decide +kernel, by decide +kernel, by decide +kernel, by decide +kernel, by decide +kernel⟩, List.forall_mem_cons.mpr ⟨⟨gw_284, by decide +kernel, by decide +kernel, by decide +kernel, by decide +kernel, by decide +kernel⟩, List.forall_mem_cons.mpr ⟨⟨gw_283, by decide +kernel, by decide +kernel, by decide +kernel, by decide +kernel, by decide +kernel⟩, List.forall_mem_cons.mpr ⟨⟨gw_282, by decide +kernel, by decide +kernel, by decide +kernel, by decide +kernel, by decide +kernel⟩, List.forall_mem_cons.mpr ⟨⟨gw_281, by decide +kernel, by decide +kernel, by decide +kernel, by decide +kernel, by decide +kernel⟩, List.forall_mem_cons.mpr ⟨⟨gw_280, by decide +kernel, by decide +kernel, by decide +kernel, by decide +kernel, by decide +kernel⟩, List.forall_mem_cons.mpr ⟨⟨gw_279, by decide +kernel, by decide +kernel, by decide +kernel, by decide +kernel, by decide +kernel⟩, List.forall_mem_cons.mpr ⟨⟨gw_278, by decide +kernel, by decide +kernel, by decide +kernel, by decide +kernel, by decide +kernel⟩, List.forall_mem_cons.mpr ⟨⟨gw_277, by decide +kernel, by decide +kernel, by decide +kernel, by decide +kernel, by decide +kernel⟩, List.forall_mem_cons.mpr ⟨⟨gw_276, by decide +kernel, by decide +kernel, by decide +kernel, by decide +kernel, by decide +kernel⟩, List.forall_mem_cons.mpr ⟨⟨gw_275, by decide +kernel, by decide +kernel, by decide +kernel, by decide +kernel, by decide +kernel⟩, fun _ h => absurd h List.not_mem_nil⟩⟩⟩⟩⟩⟩⟩⟩⟩⟩⟩⟩⟩⟩⟩⟩⟩⟩⟩⟩⟩⟩⟩⟩⟩⟩⟩⟩⟩⟩⟩⟩⟩⟩⟩⟩⟩⟩⟩⟩
theorem mm_mt_3_ok : ∀ t ∈ mm_mt_3, mm_okT t := List.forall_mem_cons.mpr ⟨⟨gw_354, by decide +kernel, by decide +kernel, by decide +kernel, by decide +kernel, by decide +kernel⟩, List.forall_mem_cons.mpr ⟨⟨gw_353, by decide +kernel, by decide +kernel, by decide +kernel, by decide +kernel, by decide +kernel⟩, List.forall_mem_cons.mpr ⟨⟨gw_352, by decide +kernel, by decide +kernel, by decide +kernel, by decide +kernel, by decide +kernel⟩, List.forall_mem_cons.mpr ⟨⟨gw_351, by decide +kernel, by decide +kernel, by decide +kernel, by decide +kernel, by decide +kernel⟩, List.forall_mem_cons.mpr ⟨⟨gw_350, by decide +kernel, by decide +kernel, by decide +kernel, by decide +kernel, by decide +kernel⟩, List.forall_mem_cons.mpr ⟨⟨gw_349, by decide +kernel, by decide +kernel, by decide +kernel, by decide +kernel, by decide +kernel⟩, List.forall_mem_cons.mpr ⟨⟨gw_348, by decide +kernel, by decide +kernel, by decide +kernel, by decide +kernel, by decide +kernel⟩, List.forall_mem_cons.mpr ⟨⟨gw_347, by decide +kernel, by decide +kernel, by decide +kernel, by decide +kernel, by decide +kernel⟩, List.forall_mem_cons.mpr ⟨⟨gw_346, by decide +kernel, by decide +kernel, by decide +kernel, by decide +kernel, by decide +kernel⟩, List.forall_mem_cons.mpr ⟨⟨gw_345, by decide +kernel, by decide +kernel, by decide +kernel, by decide +kernel, by decide +kernel⟩, List.forall_mem_cons.mpr ⟨⟨gw_344, by decide +kernel, by decide +kernel, by decide +kernel, by decide +kernel, by decide +kernel⟩, List.forall_mem_cons.mpr ⟨⟨gw_343, by decide +kernel, by decide +kernel, by decide +kernel, by decide +kernel, by decide +kernel⟩, List.forall_mem_cons.mpr ⟨⟨gw_342, by decide +kernel, by decide +kernel, by decide +kernel, by decide +kernel, by decide +kernel⟩, List.forall_mem_cons.mpr ⟨⟨gw_341, by decide +kernel, by decide +kernel, by decide +kernel, by decide +kernel, by decide +kernel⟩, List.forall_mem_cons.mpr ⟨⟨gw_340, by decide +kernel, by decide +kernel, by decide +kernel, by decide +kernel, by decide +kernel⟩, List.forall_mem_cons.mpr ⟨⟨gw_339, by decide +kernel, by decide +kernel, by decide +kernel, by decide +kernel, by decide +kernel⟩, List.forall_mem_cons.mpr ⟨⟨gw_338, by decide +kernel, by decide +kernel, by decide +kernel, by decide +kernel, by decide +kernel⟩, List.forall_mem_cons.mpr ⟨⟨gw_337, by decide +kernel, by decide +kernel, by decide +kernel, by decide +kernel, by decide +kernel⟩, List.forall_mem_cons.mpr ⟨⟨gw_336, by decide +kernel, by decide +kernel, by decide +kernel, by decide +kernel, by decide +kernel⟩, List.forall_mem_cons.mpr ⟨⟨gw_335, by decide +kernel, by decide +kernel, by decide +kernel, by decide +kernel, by decide +kernel⟩, List.forall_mem_cons.mpr ⟨⟨gw_334, by decide +kernel, by decide +kernel, by decide +kernel, by decide +kernel, by decide +kernel⟩, List.forall_mem_cons.mpr ⟨⟨gw_333, by decide +kernel, by decide +kernel, by decide +kernel, by decide +kernel, by decide +kernel⟩, List.forall_mem_cons.mpr ⟨⟨gw_332, by decide +kernel, by decide +kernel, by decide +kernel, by decide +kernel, by decide +kernel⟩, List.forall_mem_cons.mpr ⟨⟨gw_331, by decide +kernel, by decide +kernel, by decide +kernel, by decide +kernel, by decide +kernel⟩, List.forall_mem_cons.mpr ⟨⟨gw_330, by decide +kernel, by decide +kernel, by decide +kernel, by decide +kernel, by decide +kernel⟩, List.forall_mem_cons.mpr ⟨⟨gw_329, by decide +kernel, by decide +kernel, by decide +kernel, by decide +kernel, by decide +kernel⟩, List.forall_mem_cons.mpr ⟨⟨gw_328, by decide +kernel, by decide +kernel, by decide +kernel, by decide +kernel, by decide +kernel⟩, List.forall_mem_cons.mpr ⟨⟨gw_327, by decide +kernel, by decide +kernel, by decide +kernel, by decide +kernel, by decide +kernel⟩, List.forall_mem_cons.mpr ⟨⟨gw_326, by decide +kernel, by decide +kernel, by decide +kernel, by decide +kernel, by decide +kernel⟩, List.forall_mem_cons.mpr ⟨⟨gw_325, by decide +kernel, by decide +kernel, by decide +kernel, by decide +kernel, by decide +kernel⟩, List.forall_mem_cons.mpr ⟨⟨gw_324, by decide +kernel, by decide +kernel, by decide +kernel, by decide +kernel, by decide +kernel⟩, List.forall_mem_cons.mpr ⟨⟨gw_323, by decide +kernel, by decide +kernel, by decide +kernel, by decide +kernel, by decide +kernel⟩, List.forall_mem_cons.mpr ⟨⟨gw_322, by decide +kernel, by decide +kernel, by decide +kernel, by decide +kernel, by decide +kernel⟩, List.forall_mem_cons.mpr ⟨⟨gw_321, by decide +kernel, by decide +kernel, by decide +kernel, by decide +kernel, by decide +kernel⟩, List.forall_mem_cons.mpr ⟨⟨gw_320, by decide +kernel, by decide +kernel, by decide +kernel, by decide +kernel, by decide +kernel⟩, List.forall_mem_cons.mpr ⟨⟨gw_319, by decide +kernel, by decide +kernel, by decide +kernel, by decide +kernel, by decide +kernel⟩, List.forall_mem_cons.mpr ⟨⟨gw_318, by decide +kernel, by decide +kernel, by decide +kernel, by decide +kernel, by decide +kernel⟩, List.forall_mem_cons.mpr ⟨⟨gw_317, by decide +kernel, by decide +kernel, by decide +kernel, by decide +kernel, by decide +kernel⟩, List.forall_mem_cons.mpr ⟨⟨gw_316, by decide +kernel, by decide +kernel, by decide +kernel, by decide +kernel, by decide +kernel⟩, List.forall_mem_cons.mpr ⟨⟨gw_315, by decide +kernel, by decide +kernel, by decide +kernel, by decide +kernel, by decide +kernel⟩, fun _ h => absurd h List.not_mem_nil⟩⟩⟩⟩⟩⟩⟩⟩⟩⟩⟩⟩⟩⟩⟩⟩⟩⟩⟩⟩⟩⟩⟩⟩⟩⟩⟩⟩⟩⟩⟩⟩⟩⟩⟩⟩⟩⟩⟩⟩
theorem mm_mt_4_ok : ∀ t ∈ mm_mt_4, mm_okT t := List.forall_mem_cons.mpr ⟨⟨gw_394, by decide +kernel, by decide +kernel, by decide +kernel, by decide +kernel, by decide +kernel⟩, List.forall_mem_cons.mpr ⟨⟨gw_393, by decide +kernel, by decide +kernel, by decide +kernel, by decide +kernel, by decide +kernel⟩, List.forall_mem_cons.mpr ⟨⟨gw_392, by decide +kernel, by decide +kernel, by decide +kernel, by decide +kernel, by decide +kernel⟩, List.forall_mem_cons.mpr ⟨⟨gw_391, by decide +kernel, by decide +kernel, by decide +kernel, by decide +kernel, by decide +kernel⟩, List.forall_mem_cons.mpr ⟨⟨gw_390, by decide +kernel, by decide +kernel, by decide +kernel, by decide +kernel, by decide +kernel⟩, List.forall_mem_cons.mpr ⟨⟨gw_389, by decide +kernel, by decide +kernel, by decide +kernel, by decide +kernel, by decide +kernel⟩, List.forall_mem_cons.mpr ⟨⟨gw_388, by decide +kernel, by decide +kernel, by decide +kernel, by decide +kernel, by decide +kernel⟩, List.forall_mem_cons.mpr ⟨⟨gw_387, by decide +kernel, by decide +kernel, by decide +kernel, by decide +kernel, by decide +kernel⟩, List.forall_mem_cons.mpr ⟨⟨gw_386, by decide +kernel, by decide +kernel, by decide +kernel, by decide +kernel, by decide +kernel⟩, List.forall_mem_cons.mpr ⟨⟨gw_385, by decide +kernel, by decide +kernel, by decide +kernel, by decide +kernel, by decide +kernel⟩, List.forall_mem_cons.mpr ⟨⟨gw_384, by decide +kernel, by decide +kernel, by decide +kernel, by decide +kernel, by decide +kernel⟩, List.forall_mem_cons.mpr ⟨⟨gw_383, by decide +kernel, by decide +kernel, by decide +kernel, by decide +kernel, by decide +kernel⟩, List.forall_mem_cons.mpr ⟨⟨gw_382, by decide +kernel, by decide +kernel, by decide +kernel, by decide +kernel, by decide +kernel⟩, List.forall_mem_cons.mpr ⟨⟨gw_381, by decide +kernel, by decide +kernel, by decide +kernel, by decide +kernel, by decide +kernel⟩, List.forall_mem_cons.mpr ⟨⟨gw_380, by decide +kernel, by decide +kernel, by decide +kernel, by decide +kernel, by decide +kernel⟩, List.forall_mem_cons.mpr ⟨⟨gw_379, by decide +kernel, by decide +kernel, by decide +kernel, by decide +kernel, by decide +kernel⟩, List.forall_mem_cons.mpr ⟨⟨gw_378, by decide +kernel, by decide +kernel, by decide +kernel, by decide +kernel, by decide +kernel⟩, List.forall_mem_cons.mpr ⟨⟨gw_377, by decide +kernel, by decide +kernel, by decide +kernel, by decide +kernel, by decide +kernel⟩, List.forall_mem_cons.mpr ⟨⟨gw_376, by decide +kernel, by decide +kernel, by decide +kernel, by decide +kernel, by decide +kernel⟩, List.forall_mem_cons.mpr ⟨⟨gw_375, by decide +kernel, by decide +kernel, by decide +kernel, by decide +kernel, by decide +kernel⟩, List.forall_mem_cons.mpr ⟨⟨gw_374, by decide +kernel, by decide +kernel, by decide +kernel, by decide +kernel, by decide +kernel⟩, List.forall_mem_cons.mpr ⟨⟨gw_373, by decide +kernel, by decide +kernel, by decide +kernel, by decide +kernel, by decide +kernel⟩, List.forall_mem_cons.mpr ⟨⟨gw_372, by decide +kernel, by decide +kernel, by decide +kernel, by decide +kernel, by decide +kernel⟩, List.forall_mem_cons.mpr ⟨⟨gw_371, by decide +kernel, by decide +kernel, by decide +kernel, by decide +kernel, by decide +kernel⟩, List.forall_mem_cons.mpr ⟨⟨gw_370, by decide +kernel, by decide +kernel, by decide +kernel, by decide +kernel, by decide +kernel⟩, List.forall_mem_cons.mpr ⟨⟨gw_369, by decide +kernel, by decide +kernel, by decide +kernel, by decide +kernel, by decide +kernel⟩, List.forall_mem_cons.mpr ⟨⟨gw_368, by decide +kernel, by decide +kernel, by decide +kernel, by decide +kernel, by decide +kernel⟩, List.forall_mem_cons.mpr ⟨⟨gw_367, by decide +kernel, by decide +kernel, by decide +kernel, by decide +kernel, by decide +kernel⟩, List.forall_mem_cons.mpr ⟨⟨gw_366, by decide +kernel, by decide +kernel, by decide +kernel, by decide +kernel, by decide +kernel⟩, List.forall_mem_cons.mpr ⟨⟨gw_365, by decide +kernel, by decide +kernel, by decide +kernel, by decide +kernel, by decide +kernel⟩, List.forall_mem_cons.mpr ⟨⟨gw_364, by decide +kernel, by decide +kernel, by decide +kernel, by decide +kernel, by decide +kernel⟩, List.forall_mem_cons.mpr ⟨⟨gw_363, by decide +kernel, by decide +kernel, by decide +kernel, by decide +kernel, by decide +kernel⟩, List.forall_mem_cons.mpr ⟨⟨gw_362, by decide +kernel, by decide +kernel, by decide +kernel, by decide +kernel, by decide +kernel⟩, List.forall_mem_cons.mpr ⟨⟨gw_361, by decide +kernel, by decide +kernel, by decide +kernel, by decide +kernel, by decide +kernel⟩, List.forall_mem_cons.mpr ⟨⟨gw_360, by decide +kernel, by decide +kernel, by decide +kernel, by decide +kernel, by decide +kernel⟩, List.forall_mem_cons.mpr ⟨⟨gw_359, by decide +kernel, by decide +kernel, by decide +kernel, by decide +kernel, by decide +kernel⟩, List.forall_mem_cons.mpr ⟨⟨gw_358, by decide +kernel, by decide +kernel, by decide +kernel, by decide +kernel, by decide +kernel⟩, List.forall_mem_cons.mpr ⟨⟨gw_357, by decide +kernel, by decide +kernel, by decide +kernel, by decide +kernel, by decide +kernel⟩, List.forall_mem_cons.mpr ⟨⟨gw_356, by decide +kernel, by decide +kernel, by decide +kernel, by decide +kernel, by decide +kernel⟩, List.forall_mem_cons.mpr ⟨⟨gw_355, by decide +kernel, by decide +kernel, by decide +kernel, by decide +kernel, by decide +kernel⟩, fun _ h => absurd h List.not_mem_nil⟩⟩⟩⟩⟩⟩⟩⟩⟩⟩⟩⟩⟩⟩⟩⟩⟩⟩⟩⟩⟩⟩⟩⟩⟩⟩⟩⟩⟩⟩⟩⟩⟩⟩⟩⟩⟩⟩⟩⟩
theorem mm_mt_5_ok : ∀ t ∈ mm_mt_5, mm_okT t := List.forall_mem_cons.mpr ⟨⟨gw_419, by decide +kernel, by decide +kernel, by decide +kernel, by decide +kernel, by decide +kernel⟩, List.forall_mem_cons.mpr ⟨⟨gw_418, by decide +kernel, by decide +kernel, by decide +kernel, by decide +kernel, by decide +kernel⟩, List.forall_mem_cons.mpr ⟨⟨gw_417, by decide +kernel, by decide +kernel, by decide +kernel, by decide +kernel, by decide +kernel⟩, List.forall_mem_cons.mpr ⟨⟨gw_416, by decide +kernel, by decide +kernel, by decide +kernel, by decide +kernel, by decide +kernel⟩, List.forall_mem_cons.mpr ⟨⟨gw_415, by decide +kernel, by decide +kernel, by decide +kernel, by decide +kernel, by decide +kernel⟩, List.forall_mem_cons.mpr ⟨⟨gw_414, by decide +kernel, by decide +kernel, by decide +kernel, by decide +kernel, by decide +kernel⟩, List.forall_mem_cons.mpr ⟨⟨gw_413, by decide +kernel, by decide +kernel, by decide +kernel, by decide +kernel, by decide +kernel⟩, List.forall_mem_cons.mpr ⟨⟨gw_412, by decide +kernel, by decide +kernel, by decide +kernel, by decide +kernel, by decide +kernel⟩, List.forall_mem_cons.mpr ⟨⟨gw_411, by decide +kernel, by decide +kernel, by decide +kernel, by decide +kernel, by decide +kernel⟩, List.forall_mem_cons.mpr ⟨⟨gw_410, by decide +kernel, by decide +kernel, by decide +kernel, by decide +kernel, by decide +kernel⟩, List.forall_mem_cons.mpr ⟨⟨gw_409, by decide +kernel, by decide +kernel, by decide +kernel, by decide +kernel, by decide +kernel⟩, List.forall_mem_cons.mpr ⟨⟨gw_408, by decide +kernel, by decide +kernel, by decide +kernel, by decide +kernel, by decide +kernel⟩, List.forall_mem_cons.mpr ⟨⟨gw_407, by decide +kernel, by decide +kernel, by decide +kernel, by decide +kernel, by decide +kernel⟩, List.forall_mem_cons.mpr ⟨⟨gw_406, by decide +kernel, by decide +kernel, by decide +kernel, by decide +kernel, by decide +kernel⟩, List.forall_mem_cons.mpr ⟨⟨gw_405, by decide +kernel, by decide +kernel, by decide +kernel, by decide +kernel, by decide +kernel⟩, List.forall_mem_cons.mpr ⟨⟨gw_404, by decide +kernel, by decide +kernel, by decide +kernel, by decide +kernel, by decide +kernel⟩, List.forall_mem_cons.mpr ⟨⟨gw_403, by decide +kernel, by decide +kernel, by decide +kernel, by decide +kernel, by decide +kernel⟩, List.forall_mem_cons.mpr ⟨⟨gw_402, by decide +kernel, by decide +kernel, by decide +kernel, by decide +kernel, by decide +kernel⟩, List.forall_mem_cons.mpr ⟨⟨gw_401, by decide +kernel, by decide +kernel, by decide +kernel, by decide +kernel, by decide +kernel⟩, List.forall_mem_cons.mpr ⟨⟨gw_400, by decide +kernel, by decide +kernel, by decide +kernel, by decide +kernel, by decide +kernel⟩, List.forall_mem_cons.mpr ⟨⟨gw_399, by decide +kernel, by decide +kernel, by decide +kernel, by decide +kernel, by decide +kernel⟩, List.forall_mem_cons.mpr ⟨⟨gw_398, by decide +kernel, by decide +kernel, by decide +kernel, by decide +kernel, by decide +kernel⟩, List.forall_mem_cons.mpr ⟨⟨gw_397, by decide +kernel, by decide +kernel, by decide +kernel, by decide +kernel, by decide +kernel⟩, List.forall_mem_cons.mpr ⟨⟨gw_396, by decide +kernel, by decide +kernel, by decide +kernel, by decide +kernel, by decide +kernel⟩, List.forall_mem_cons.mpr ⟨⟨gw_395, by decide +kernel, by decide +kernel, by decide +kernel, by decide +kernel, by decide +kernel⟩, fun _ h => absurd h List.not_mem_nil⟩⟩⟩⟩⟩⟩⟩⟩⟩⟩⟩⟩⟩⟩⟩⟩⟩⟩⟩⟩⟩⟩⟩⟩⟩
theorem mm_mc_ok : ∀ t ∈ mm_mc, mm_okT t := List.forall_mem_append.mpr ⟨mm_mt_0_ok, List.forall_mem_append.mpr ⟨mm_mt_1_ok, List.forall_mem_append.mpr ⟨mm_mt_2_ok, List.forall_mem_append.mpr ⟨mm_mt_3_ok, List.forall_mem_append.mpr ⟨mm_mt_4_ok, mm_mt_5_ok⟩⟩⟩⟩⟩
theorem mm_mc_len : mm_mc.length = mm_nc := by decide +kernel
theorem mm_ST_0_ok : ∀ e ∈ mm_ST_0, mm_okS e := List.forall_mem_cons.mpr ⟨⟨(⟨"PennyMore$Buyer", "note", "([II)V"⟩, prog_2_method_2_code, 2, none, 0), ⟨"PennyMore$Buyer", "note", "([II)V"⟩, rfl, gw_420, gw_421, gw_422, by decide +kernel, Or.inl rfl⟩, List.forall_mem_cons.mpr ⟨⟨(⟨"PennyMore$Buyer", "note", "([II)V"⟩, prog_2_method_2_code, 2, none, 0), ⟨"PennyMore$Falling", "note", "([II)V"⟩, rfl, gw_424, gw_421, gw_422, by decide +kernel, Or.inr ⟨gw_423, rfl⟩⟩, List.forall_mem_cons.mpr ⟨⟨(⟨"PennyMore$Buyer", "note", "([II)V"⟩, prog_2_method_2_code, 2, none, 0), ⟨"PennyMore$Late", "note", "([II)V"⟩, rfl, gw_426, gw_421, gw_422, by decide +kernel, Or.inr ⟨gw_425, rfl⟩⟩, List.forall_mem_cons.mpr ⟨⟨(⟨"PennyMore$Buyer", "note", "([II)V"⟩, prog_2_method_2_code, 2, none, 0), ⟨"PennyMore$Plain", "note", "([II)V"⟩, rfl, gw_428, gw_421, gw_422, by decide +kernel, Or.inr ⟨gw_427, rfl⟩⟩, List.forall_mem_cons.mpr ⟨⟨(⟨"PennyMore$Reader", "wordOf", "(I)Ljava/lang/String;"⟩, prog_7_method_7_code, 1, some ((Jvm.ClassFile.FieldType.object "java/lang/String")), 5), ⟨"PennyMore$Reader", "wordOf", "(I)Ljava/lang/String;"⟩, rfl, gw_429, gw_430, gw_431, by decide +kernel, Or.inl rfl⟩, List.forall_mem_cons.mpr ⟨⟨(⟨"PennyMore$Shop", "codeOf", "(III)I"⟩, prog_8_method_4_code, 3, some (Jvm.ClassFile.FieldType.int), 6), ⟨"PennyMore$Shop", "codeOf", "(III)I"⟩, rfl, gw_432, gw_433, gw_434, by decide +kernel, Or.inl rfl⟩, List.forall_mem_cons.mpr ⟨⟨(⟨"PennyMore$Shop", "passes", "(I[I)Z"⟩, prog_8_method_8_code, 5, some (Jvm.ClassFile.FieldType.boolean), 6), ⟨"PennyMore$Shop", "passes", "(I[I)Z"⟩, rfl, gw_435, gw_436, gw_434, by decide +kernel, Or.inl rfl⟩, List.forall_mem_cons.mpr ⟨⟨(⟨"PennyMore$Buyer", "note", "([II)V"⟩, prog_2_method_2_code, 2, none, 0), ⟨"PennyMore$Sure", "note", "([II)V"⟩, rfl, gw_438, gw_421, gw_422, by decide +kernel, Or.inr ⟨gw_437, rfl⟩⟩, List.forall_mem_cons.mpr ⟨⟨(⟨"PennyMore$Buyer", "note", "([II)V"⟩, prog_2_method_2_code, 2, none, 0), ⟨"PennyMore$Told", "note", "([II)V"⟩, rfl, gw_440, gw_421, gw_422, by decide +kernel, Or.inr ⟨gw_439, rfl⟩⟩, List.forall_mem_cons.mpr ⟨⟨(⟨"PennyMore$Buyer", "note", "([II)V"⟩, prog_2_method_2_code, 2, none, 0), ⟨"PennyMore$Waiting", "note", "([II)V"⟩, rfl, gw_442, gw_421, gw_422, by decide +kernel, Or.inr ⟨gw_441, rfl⟩⟩, List.forall_mem_cons.mpr ⟨⟨(⟨"PennyMore", "newBuyer", "(IIII)LPennyMore$Buyer;"⟩, prog_1_method_40_code, 4, some ((Jvm.ClassFile.FieldType.object "PennyMore$Buyer")), 11), ⟨"PennyMore", "newBuyer", "(IIII)LPennyMore$Buyer;"⟩, rfl, gw_443, gw_444, gw_445, by decide +kernel, Or.inl rfl⟩, List.forall_mem_cons.mpr ⟨⟨(⟨"PennyMore", "orAbsent", "(I)I"⟩, prog_1_method_37_code, 1, some (Jvm.ClassFile.FieldType.int), 11), ⟨"PennyMore", "orAbsent", "(I)I"⟩, rfl, gw_446, gw_447, gw_445, by decide +kernel, Or.inl rfl⟩, List.forall_mem_cons.mpr ⟨⟨(⟨"PennyMore", "lowestTerms", "(JJI)J"⟩, prog_1_method_55_code, 12, some (Jvm.ClassFile.FieldType.long), 11), ⟨"PennyMore", "lowestTerms", "(JJI)J"⟩, rfl, gw_448, gw_449, gw_445, by decide +kernel, Or.inl rfl⟩, List.forall_mem_cons.mpr ⟨⟨(⟨"PennyMore", "isTape", "(I)Z"⟩, prog_1_method_38_code, 1, some (Jvm.ClassFile.FieldType.boolean), 11), ⟨"PennyMore", "isTape", "(I)Z"⟩, rfl, gw_450, gw_451, gw_445, by decide +kernel, Or.inl rfl⟩, List.forall_mem_cons.mpr ⟨⟨(⟨"PennyMore", "isOneOf", "(LPennyMore$Buyer;I)Z"⟩, prog_1_method_41_code, 2, some (Jvm.ClassFile.FieldType.boolean), 11), ⟨"PennyMore", "isOneOf", "(LPennyMore$Buyer;I)Z"⟩, rfl, gw_452, gw_453, gw_445, by decide +kernel, Or.inl rfl⟩, List.forall_mem_cons.mpr ⟨⟨(⟨"PennyMoreModel", "in", "(III)Z"⟩, prog_14_method_3_code, 3, some (Jvm.ClassFile.FieldType.boolean), 12), ⟨"PennyMoreModel", "in", "(III)Z"⟩, rfl, gw_454, gw_455, gw_456, by decide +kernel, Or.inl rfl⟩, List.forall_mem_cons.mpr ⟨⟨(⟨"PennyMoreModel", "isFigure", "(I)Z"⟩, prog_14_method_15_code, 1, some (Jvm.ClassFile.FieldType.boolean), 12), ⟨"PennyMoreModel", "isFigure", "(I)Z"⟩, rfl, gw_457, gw_458, gw_456, by decide +kernel, Or.inl rfl⟩, List.forall_mem_cons.mpr ⟨⟨(⟨"PennyMoreModel", "orders", "(I)I"⟩, prog_14_method_52_code, 3, some (Jvm.ClassFile.FieldType.int), 12), ⟨"PennyMoreModel", "orders", "(I)I"⟩, rfl, gw_459, gw_460, gw_456, by decide +kernel, Or.inl rfl⟩, List.forall_mem_cons.mpr ⟨⟨(⟨"PennyMoreModel", "lowest", "(JJI)J"⟩, prog_14_method_56_code, 11, some (Jvm.ClassFile.FieldType.long), 12), ⟨"PennyMoreModel", "lowest", "(JJI)J"⟩, rfl, gw_461, gw_462, gw_456, by decide +kernel, Or.inl rfl⟩, List.forall_mem_cons.mpr ⟨⟨(⟨"PennyMoreModel", "above", "(I)I"⟩, prog_14_method_74_code, 1, some (Jvm.ClassFile.FieldType.int), 12), ⟨"PennyMoreModel", "above", "(I)I"⟩, rfl, gw_463, gw_464, gw_456, by decide +kernel, Or.inl rfl⟩, List.forall_mem_cons.mpr ⟨⟨(⟨"PennyMoreModel", "cut", "(IJ)J"⟩, prog_14_method_83_code, 3, some (Jvm.ClassFile.FieldType.long), 12), ⟨"PennyMoreModel", "cut", "(IJ)J"⟩, rfl, gw_465, gw_466, gw_456, by decide +kernel, Or.inl rfl⟩, List.forall_mem_cons.mpr ⟨⟨(⟨"java/lang/StringLatin1", "charAt", "([BI)C"⟩, prog_18_method_2_code, 2, some (Jvm.ClassFile.FieldType.char), 14), ⟨"java/lang/StringLatin1", "charAt", "([BI)C"⟩, rfl, gw_467, gw_468, gw_469, by decide +kernel, Or.inl rfl⟩, List.forall_mem_cons.mpr ⟨⟨(⟨"java/lang/StringLatin1", "indexOf", "([BIII)I"⟩, prog_18_method_22_code, 4, some (Jvm.ClassFile.FieldType.int), 14), ⟨"java/lang/StringLatin1", "indexOf", "([BIII)I"⟩, rfl, gw_470, gw_471, gw_469, by decide +kernel, Or.inl rfl⟩, List.forall_mem_cons.mpr ⟨⟨(⟨"jdk/internal/util/Preconditions", "checkIndex", "(IILjava/util/function/BiFunction;)I"⟩, prog_21_method_11_code, 3, some (Jvm.ClassFile.FieldType.int), 15), ⟨"jdk/internal/util/Preconditions", "checkIndex", "(IILjava/util/function/BiFunction;)I"⟩, rfl, gw_472, gw_473, gw_474, by decide +kernel, Or.inl rfl⟩, List.forall_mem_cons.mpr ⟨⟨(⟨"java/lang/String", "checkIndex", "(II)V"⟩, prog_17_method_155_code, 2, none, 13), ⟨"java/lang/String", "checkIndex", "(II)V"⟩, rfl, gw_475, gw_476, gw_477, by decide +kernel, Or.inl rfl⟩, fun _ h => absurd h List.not_mem_nil⟩⟩⟩⟩⟩⟩⟩⟩⟩⟩⟩⟩⟩⟩⟩⟩⟩⟩⟩⟩⟩⟩⟩⟩⟩
theorem mm_ST_1_ok : ∀ e ∈ mm_ST_1, mm_okS e := List.forall_mem_cons.mpr ⟨⟨(⟨"java/lang/StringLatin1", "canEncode", "(I)Z"⟩, prog_18_method_4_code, 1, some (Jvm.ClassFile.FieldType.boolean), 14), ⟨"java/lang/StringLatin1", "canEncode", "(I)Z"⟩, rfl, gw_478, gw_479, gw_469, by decide +kernel, Or.inl rfl⟩, List.forall_mem_cons.mpr ⟨⟨(⟨"java/lang/StringLatin1", "indexOfChar", "([BIII)I"⟩, prog_18_method_23_code, 6, some (Jvm.ClassFile.FieldType.int), 14), ⟨"java/lang/StringLatin1", "indexOfChar", "([BIII)I"⟩, rfl, gw_480, gw_481, gw_469, by decide +kernel, Or.inl rfl⟩, fun _ h => absurd h List.not_mem_nil⟩⟩
theorem mm_ST_ok : ∀ e ∈ mm_ST, mm_okS e := List.forall_mem_append.mpr ⟨mm_ST_0_ok, mm_ST_1_ok⟩
theorem mm_VT_0_ok : ∀ e ∈ mm_VT_0, mm_okV e := List.forall_mem_cons.mpr ⟨(List.forall_mem_cons.mpr ⟨⟨(⟨"PennyMore$Day", "gainOfYes", "()I"⟩, prog_3_method_13_code, 1, some (Jvm.ClassFile.FieldType.int), 1), ⟨"PennyMore$Day", "gainOfYes", "()I"⟩, "PennyMore$Day", rfl, gw_482, gw_483, gw_484, gw_485, by decide +kernel, by decide +kernel, by decide +kernel, Or.inl rfl⟩, fun _ h => absurd h List.not_mem_nil⟩), List.forall_mem_cons.mpr ⟨(List.forall_mem_cons.mpr ⟨⟨(⟨"PennyMore$Buyer", "bids", "(I[I)I"⟩, prog_2_method_4_code, 3, some (Jvm.ClassFile.FieldType.int), 0), ⟨"PennyMore$Buyer", "bids", "(I[I)I"⟩, "PennyMore$Buyer", rfl, gw_488, gw_422, gw_487, gw_501, by decide +kernel, by decide +kernel, by decide +kernel, Or.inl rfl⟩, List.forall_mem_cons.mpr ⟨⟨(⟨"PennyMore$Buyer", "bids", "(I[I)I"⟩, prog_2_method_4_code, 3, some (Jvm.ClassFile.FieldType.int), 0), ⟨"PennyMore$Buyer", "bids", "(I[I)I"⟩, "PennyMore$Buyer", rfl, gw_488, gw_422, gw_487, gw_500, by decide +kernel, by decide +kernel, by decide +kernel, Or.inr ⟨gw_486, ⟨"PennyMore$Buyer", "bids", "(I[I)I"⟩, _, _, _, rfl, gw_487, gw_231⟩⟩, List.forall_mem_cons.mpr ⟨⟨(⟨"PennyMore$Waiting", "bids", "(I[I)I"⟩, prog_12_method_3_code, 3, some (Jvm.ClassFile.FieldType.int), 10), ⟨"PennyMore$Buyer", "bids", "(I[I)I"⟩, "PennyMore$Buyer", rfl, gw_488, gw_489, gw_490, gw_499, by decide +kernel, by decide +kernel, by decide +kernel, Or.inr ⟨gw_486, ⟨"PennyMore$Buyer", "bids", "(I[I)I"⟩, _, _, _, rfl, gw_487, gw_231⟩⟩, List.forall_mem_cons.mpr ⟨⟨(⟨"PennyMore$Buyer", "bids", "(I[I)I"⟩, prog_2_method_4_code, 3, some (Jvm.ClassFile.FieldType.int), 0), ⟨"PennyMore$Buyer", "bids", "(I[I)I"⟩, "PennyMore$Buyer", rfl, gw_488, gw_422, gw_487, gw_498, by decide +kernel, by decide +kernel, by decide +kernel, Or.inr ⟨gw_486, ⟨"PennyMore$Buyer", "bids", "(I[I)I"⟩, _, _, _, rfl, gw_487, gw_231⟩⟩, List.forall_mem_cons.mpr ⟨⟨(⟨"PennyMore$Sure", "bids", "(I[I)I"⟩, prog_9_method_3_code, 3, some (Jvm.ClassFile.FieldType.int), 7), ⟨"PennyMore$Buyer", "bids", "(I[I)I"⟩, "PennyMore$Buyer", rfl, gw_488, gw_495, gw_496, gw_497, by decide +kernel, by decide +kernel, by decide +kernel, Or.inr ⟨gw_486, ⟨"PennyMore$Buyer", "bids", "(I[I)I"⟩, _, _, _, rfl, gw_487, gw_231⟩⟩, List.forall_mem_cons.mpr ⟨⟨(⟨"PennyMore$Told", "bids", "(I[I)I"⟩, prog_11_method_4_code, 3, some (Jvm.ClassFile.FieldType.int), 9), ⟨"PennyMore$Buyer", "bids", "(I[I)I"⟩, "PennyMore$Buyer", rfl, gw_488, gw_492, gw_493, gw_494, by decide +kernel, by decide +kernel, by decide +kernel, Or.inr ⟨gw_486, ⟨"PennyMore$Buyer", "bids", "(I[I)I"⟩, _, _, _, rfl, gw_487, gw_231⟩⟩, List.forall_mem_cons.mpr ⟨⟨(⟨"PennyMore$Waiting", "bids", "(I[I)I"⟩, prog_12_method_3_code, 3, some (Jvm.ClassFile.FieldType.int), 10), ⟨"PennyMore$Buyer", "bids", "(I[I)I"⟩, "PennyMore$Buyer", rfl, gw_488, gw_489, gw_490, gw_491, by decide +kernel, by decide +kernel, by decide +kernel, Or.inr ⟨gw_486, ⟨"PennyMore$Buyer", "bids", "(I[I)I"⟩, _, _, _, rfl, gw_487, gw_231⟩⟩, fun _ h => absurd h List.not_mem_nil⟩⟩⟩⟩⟩⟩⟩), List.forall_mem_cons.mpr ⟨(List.forall_mem_cons.mpr ⟨⟨(⟨"PennyMore$Buyer", "waits", "(I[I)I"⟩, prog_2_method_5_code, 3, some (Jvm.ClassFile.FieldType.int), 0), ⟨"PennyMore$Buyer", "waits", "(I[I)I"⟩, "PennyMore$Buyer", rfl, gw_504, gw_422, gw_503, gw_515, by decide +kernel, by decide +kernel, by decide +kernel, Or.inl rfl⟩, List.forall_mem_cons.mpr ⟨⟨(⟨"PennyMore$Buyer", "waits", "(I[I)I"⟩, prog_2_method_5_code, 3, some (Jvm.ClassFile.FieldType.int), 0), ⟨"PennyMore$Buyer", "waits", "(I[I)I"⟩, "PennyMore$Buyer", rfl, gw_504, gw_422, gw_503, gw_514, by decide +kernel, by decide +kernel, by decide +kernel, Or.inr ⟨gw_502, ⟨"PennyMore$Buyer", "waits", "(I[I)I"⟩, _, _, _, rfl, gw_503, gw_230⟩⟩, List.forall_mem_cons.mpr ⟨⟨(⟨"PennyMore$Buyer", "waits", "(I[I)I"⟩, prog_2_method_5_code, 3, some (Jvm.ClassFile.FieldType.int), 0), ⟨"PennyMore$Buyer", "waits", "(I[I)I"⟩, "PennyMore$Buyer", rfl, gw_504, gw_422, gw_503, gw_513, by decide +kernel, by decide +kernel, by decide +kernel, Or.inr ⟨gw_502, ⟨"PennyMore$Buyer", "waits", "(I[I)I"⟩, _, _, _, rfl, gw_503, gw_230⟩⟩, List.forall_mem_cons.mpr ⟨⟨(⟨"PennyMore$Plain", "waits", "(I[I)I"⟩, prog_6_method_3_code, 3, some (Jvm.ClassFile.FieldType.int), 4), ⟨"PennyMore$Buyer", "waits", "(I[I)I"⟩, "PennyMore$Buyer", rfl, gw_504, gw_510, gw_511, gw_512, by decide +kernel, by decide +kernel, by decide +kernel, Or.inr ⟨gw_502, ⟨"PennyMore$Buyer", "waits", "(I[I)I"⟩, _, _, _, rfl, gw_503, gw_230⟩⟩, List.forall_mem_cons.mpr ⟨⟨(⟨"PennyMore$Sure", "waits", "(I[I)I"⟩, prog_9_method_4_code, 3, some (Jvm.ClassFile.FieldType.int), 7), ⟨"PennyMore$Buyer", "waits", "(I[I)I"⟩, "PennyMore$Buyer", rfl, gw_504, gw_495, gw_508, gw_509, by decide +kernel, by decide +kernel, by decide +kernel, Or.inr ⟨gw_502, ⟨"PennyMore$Buyer", "waits", "(I[I)I"⟩, _, _, _, rfl, gw_503, gw_230⟩⟩, List.forall_mem_cons.mpr ⟨⟨(⟨"PennyMore$Told", "waits", "(I[I)I"⟩, prog_11_method_3_code, 3, some (Jvm.ClassFile.FieldType.int), 9), ⟨"PennyMore$Buyer", "waits", "(I[I)I"⟩, "PennyMore$Buyer", rfl, gw_504, gw_492, gw_506, gw_507, by decide +kernel, by decide +kernel, by decide +kernel, Or.inr ⟨gw_502, ⟨"PennyMore$Buyer", "waits", "(I[I)I"⟩, _, _, _, rfl, gw_503, gw_230⟩⟩, List.forall_mem_cons.mpr ⟨⟨(⟨"PennyMore$Buyer", "waits", "(I[I)I"⟩, prog_2_method_5_code, 3, some (Jvm.ClassFile.FieldType.int), 0), ⟨"PennyMore$Buyer", "waits", "(I[I)I"⟩, "PennyMore$Buyer", rfl, gw_504, gw_422, gw_503, gw_505, by decide +kernel, by decide +kernel, by decide +kernel, Or.inr ⟨gw_502, ⟨"PennyMore$Buyer", "waits", "(I[I)I"⟩, _, _, _, rfl, gw_503, gw_230⟩⟩, fun _ h => absurd h List.not_mem_nil⟩⟩⟩⟩⟩⟩⟩), List.forall_mem_cons.mpr ⟨(List.forall_mem_cons.mpr ⟨⟨(⟨"PennyMore$Day", "stand", "(I)V"⟩, prog_3_method_8_code, 2, none, 1), ⟨"PennyMore$Day", "stand", "(I)V"⟩, "PennyMore$Day", rfl, gw_516, gw_483, gw_517, gw_518, by decide +kernel, by decide +kernel, by decide +kernel, Or.inl rfl⟩, fun _ h => absurd h List.not_mem_nil⟩), List.forall_mem_cons.mpr ⟨(List.forall_mem_cons.mpr ⟨⟨(⟨"PennyMore$Day", "placeOf", "(I)I"⟩, prog_3_method_7_code, 3, some (Jvm.ClassFile.FieldType.int), 1), ⟨"PennyMore$Day", "placeOf", "(I)I"⟩, "PennyMore$Day", rfl, gw_519, gw_483, gw_520, gw_521, by decide +kernel, by decide +kernel, by decide +kernel, Or.inl rfl⟩, fun _ h => absurd h List.not_mem_nil⟩), List.forall_mem_cons.mpr ⟨(List.forall_mem_cons.mpr ⟨⟨(⟨"PennyMore$Day", "leave", "(I)V"⟩, prog_3_method_9_code, 3, none, 1), ⟨"PennyMore$Day", "leave", "(I)V"⟩, "PennyMore$Day", rfl, gw_522, gw_483, gw_523, gw_524, by decide +kernel, by decide +kernel, by decide +kernel, Or.inl rfl⟩, fun _ h => absurd h List.not_mem_nil⟩), List.forall_mem_cons.mpr ⟨(List.forall_mem_cons.mpr ⟨⟨(⟨"PennyMore$Day", "friendStands", "(I)Z"⟩, prog_3_method_12_code, 2, some (Jvm.ClassFile.FieldType.boolean), 1), ⟨"PennyMore$Day", "friendStands", "(I)Z"⟩, "PennyMore$Day", rfl, gw_525, gw_483, gw_526, gw_527, by decide +kernel, by decide +kernel, by decide +kernel, Or.inl rfl⟩, fun _ h => absurd h List.not_mem_nil⟩), List.forall_mem_cons.mpr ⟨(List.forall_mem_cons.mpr ⟨⟨(⟨"PennyMore$Shop", "sumOf", "(I[I)I"⟩, prog_8_method_6_code, 6, some (Jvm.ClassFile.FieldType.int), 6), ⟨"PennyMore$Shop", "sumOf", "(I[I)I"⟩, "PennyMore$Shop", rfl, gw_528, gw_434, gw_529, gw_530, by decide +kernel, by decide +kernel, by decide +kernel, Or.inl rfl⟩, fun _ h => absurd h List.not_mem_nil⟩), List.forall_mem_cons.mpr ⟨(List.forall_mem_cons.mpr ⟨⟨(⟨"PennyMore$Day", "weigh", "(I)V"⟩, prog_3_method_14_code, 2, none, 1), ⟨"PennyMore$Day", "weigh", "(I)V"⟩, "PennyMore$Day", rfl, gw_531, gw_483, gw_532, gw_533, by decide +kernel, by decide +kernel, by decide +kernel, Or.inl rfl⟩, fun _ h => absurd h List.not_mem_nil⟩), List.forall_mem_cons.mpr ⟨(List.forall_mem_cons.mpr ⟨⟨(⟨"PennyMore$Buyer", "does", "(LPennyMore$Day;)I"⟩, prog_2_method_3_code, 2, some (Jvm.ClassFile.FieldType.int), 0), ⟨"PennyMore$Buyer", "does", "(LPennyMore$Day;)I"⟩, "PennyMore$Buyer", rfl, gw_536, gw_422, gw_535, gw_551, by decide +kernel, by decide +kernel, by decide +kernel, Or.inl rfl⟩, List.forall_mem_cons.mpr ⟨⟨(⟨"PennyMore$Falling", "does", "(LPennyMore$Day;)I"⟩, prog_4_method_2_code, 2, some (Jvm.ClassFile.FieldType.int), 2), ⟨"PennyMore$Buyer", "does", "(LPennyMore$Day;)I"⟩, "PennyMore$Buyer", rfl, gw_536, gw_548, gw_549, gw_550, by decide +kernel, by decide +kernel, by decide +kernel, Or.inr ⟨gw_534, ⟨"PennyMore$Buyer", "does", "(LPennyMore$Day;)I"⟩, _, _, _, rfl, gw_535, gw_232⟩⟩, List.forall_mem_cons.mpr ⟨⟨(⟨"PennyMore$Late", "does", "(LPennyMore$Day;)I"⟩, prog_5_method_2_code, 2, some (Jvm.ClassFile.FieldType.int), 3), ⟨"PennyMore$Buyer", "does", "(LPennyMore$Day;)I"⟩, "PennyMore$Buyer", rfl, gw_536, gw_545, gw_546, gw_547, by decide +kernel, by decide +kernel, by decide +kernel, Or.inr ⟨gw_534, ⟨"PennyMore$Buyer", "does", "(LPennyMore$Day;)I"⟩, _, _, _, rfl, gw_535, gw_232⟩⟩, List.forall_mem_cons.mpr ⟨⟨(⟨"PennyMore$Plain", "does", "(LPennyMore$Day;)I"⟩, prog_6_method_2_code, 2, some (Jvm.ClassFile.FieldType.int), 4), ⟨"PennyMore$Buyer", "does", "(LPennyMore$Day;)I"⟩, "PennyMore$Buyer", rfl, gw_536, gw_510, gw_543, gw_544, by decide +kernel, by decide +kernel, by decide +kernel, Or.inr ⟨gw_534, ⟨"PennyMore$Buyer", "does", "(LPennyMore$Day;)I"⟩, _, _, _, rfl, gw_535, gw_232⟩⟩, List.forall_mem_cons.mpr ⟨⟨(⟨"PennyMore$Sure", "does", "(LPennyMore$Day;)I"⟩, prog_9_method_2_code, 2, some (Jvm.ClassFile.FieldType.int), 7), ⟨"PennyMore$Buyer", "does", "(LPennyMore$Day;)I"⟩, "PennyMore$Buyer", rfl, gw_536, gw_495, gw_541, gw_542, by decide +kernel, by decide +kernel, by decide +kernel, Or.inr ⟨gw_534, ⟨"PennyMore$Buyer", "does", "(LPennyMore$Day;)I"⟩, _, _, _, rfl, gw_535, gw_232⟩⟩, List.forall_mem_cons.mpr ⟨⟨(⟨"PennyMore$Told", "does", "(LPennyMore$Day;)I"⟩, prog_11_method_2_code, 4, some (Jvm.ClassFile.FieldType.int), 9), ⟨"PennyMore$Buyer", "does", "(LPennyMore$Day;)I"⟩, "PennyMore$Buyer", rfl, gw_536, gw_492, gw_539, gw_540, by decide +kernel, by decide +kernel, by decide +kernel, Or.inr ⟨gw_534, ⟨"PennyMore$Buyer", "does", "(LPennyMore$Day;)I"⟩, _, _, _, rfl, gw_535, gw_232⟩⟩, List.forall_mem_cons.mpr ⟨⟨(⟨"PennyMore$Waiting", "does", "(LPennyMore$Day;)I"⟩, prog_12_method_2_code, 2, some (Jvm.ClassFile.FieldType.int), 10), ⟨"PennyMore$Buyer", "does", "(LPennyMore$Day;)I"⟩, "PennyMore$Buyer", rfl, gw_536, gw_489, gw_537, gw_538, by decide +kernel, by decide +kernel, by decide +kernel, Or.inr ⟨gw_534, ⟨"PennyMore$Buyer", "does", "(LPennyMore$Day;)I"⟩, _, _, _, rfl, gw_535, gw_232⟩⟩, fun _ h => absurd h List.not_mem_nil⟩⟩⟩⟩⟩⟩⟩), List.forall_mem_cons.mpr ⟨(List.forall_mem_cons.mpr ⟨⟨(⟨"PennyMore$Day", "carryOut", "(I)V"⟩, prog_3_method_17_code, 3, none, 1), ⟨"PennyMore$Day", "carryOut", "(I)V"⟩, "PennyMore$Day", rfl, gw_552, gw_483, gw_553, gw_554, by decide +kernel, by decide +kernel, by decide +kernel, Or.inl rfl⟩, fun _ h => absurd h List.not_mem_nil⟩), List.forall_mem_cons.mpr ⟨(List.forall_mem_cons.mpr ⟨⟨(⟨"PennyMore$Day", "turnComes", "()Z"⟩, prog_3_method_15_code, 1, some (Jvm.ClassFile.FieldType.boolean), 1), ⟨"PennyMore$Day", "turnComes", "()Z"⟩, "PennyMore$Day", rfl, gw_555, gw_483, gw_556, gw_557, by decide +kernel, by decide +kernel, by decide +kernel, Or.inl rfl⟩, fun _ h => absurd h List.not_mem_nil⟩), List.forall_mem_cons.mpr ⟨(List.forall_mem_cons.mpr ⟨⟨(⟨"PennyMore$Day", "turn", "()I"⟩, prog_3_method_16_code, 3, some (Jvm.ClassFile.FieldType.int), 1), ⟨"PennyMore$Day", "turn", "()I"⟩, "PennyMore$Day", rfl, gw_558, gw_483, gw_559, gw_560, by decide +kernel, by decide +kernel, by decide +kernel, Or.inl rfl⟩, fun _ h => absurd h List.not_mem_nil⟩), List.forall_mem_cons.mpr ⟨(List.forall_mem_cons.mpr ⟨⟨(⟨"PennyMore$Day", "friendStands", "(I)Z"⟩, prog_3_method_12_code, 2, some (Jvm.ClassFile.FieldType.boolean), 1), ⟨"PennyMore$Day", "friendStands", "(I)Z"⟩, "PennyMore$Day", rfl, gw_561, gw_483, gw_526, gw_527, by decide +kernel, by decide +kernel, by decide +kernel, Or.inl rfl⟩, fun _ h => absurd h List.not_mem_nil⟩), List.forall_mem_cons.mpr ⟨(List.forall_mem_cons.mpr ⟨⟨(⟨"PennyMore$Buyer", "waits", "(I[I)I"⟩, prog_2_method_5_code, 3, some (Jvm.ClassFile.FieldType.int), 0), ⟨"PennyMore$Falling", "waits", "(I[I)I"⟩, "PennyMore$Buyer", rfl, gw_563, gw_422, gw_503, gw_565, by decide +kernel, by decide +kernel, by decide +kernel, Or.inr ⟨gw_562, ⟨"PennyMore$Buyer", "waits", "(I[I)I"⟩, _, _, _, rfl, gw_503, gw_230⟩⟩, List.forall_mem_cons.mpr ⟨⟨(⟨"PennyMore$Told", "waits", "(I[I)I"⟩, prog_11_method_3_code, 3, some (Jvm.ClassFile.FieldType.int), 9), ⟨"PennyMore$Falling", "waits", "(I[I)I"⟩, "PennyMore$Buyer", rfl, gw_563, gw_492, gw_506, gw_564, by decide +kernel, by decide +kernel, by decide +kernel, Or.inr ⟨gw_562, ⟨"PennyMore$Buyer", "waits", "(I[I)I"⟩, _, _, _, rfl, gw_503, gw_230⟩⟩, fun _ h => absurd h List.not_mem_nil⟩⟩), List.forall_mem_cons.mpr ⟨(List.forall_mem_cons.mpr ⟨⟨(⟨"PennyMore$Day", "mayGoAway", "(I)Z"⟩, prog_3_method_11_code, 2, some (Jvm.ClassFile.FieldType.boolean), 1), ⟨"PennyMore$Day", "mayGoAway", "(I)Z"⟩, "PennyMore$Day", rfl, gw_566, gw_483, gw_567, gw_568, by decide +kernel, by decide +kernel, by decide +kernel, Or.inl rfl⟩, fun _ h => absurd h List.not_mem_nil⟩), List.forall_mem_cons.mpr ⟨(List.forall_mem_cons.mpr ⟨⟨(⟨"PennyMore$Day", "gainOfYes", "()I"⟩, prog_3_method_13_code, 1, some (Jvm.ClassFile.FieldType.int), 1), ⟨"PennyMore$Day", "gainOfYes", "()I"⟩, "PennyMore$Day", rfl, gw_569, gw_483, gw_484, gw_485, by decide +kernel, by decide +kernel, by decide +kernel, Or.inl rfl⟩, fun _ h => absurd h List.not_mem_nil⟩), List.forall_mem_cons.mpr ⟨(List.forall_mem_cons.mpr ⟨⟨(⟨"PennyMore$Shop", "clear", "()V"⟩, prog_8_method_2_code, 1, none, 6), ⟨"PennyMore$Shop", "clear", "()V"⟩, "PennyMore$Shop", rfl, gw_570, gw_434, gw_571, gw_572, by decide +kernel, by decide +kernel, by decide +kernel, Or.inl rfl⟩, fun _ h => absurd h List.not_mem_nil⟩), List.forall_mem_cons.mpr ⟨(List.forall_mem_cons.mpr ⟨⟨(⟨"PennyMore$Reader", "clause", "()Z"⟩, prog_7_method_8_code, 4, some (Jvm.ClassFile.FieldType.boolean), 5), ⟨"PennyMore$Reader", "clause", "()Z"⟩, "PennyMore$Reader", rfl, gw_573, gw_431, gw_574, gw_575, by decide +kernel, by decide +kernel, by decide +kernel, Or.inl rfl⟩, fun _ h => absurd h List.not_mem_nil⟩), List.forall_mem_cons.mpr ⟨(List.forall_mem_cons.mpr ⟨⟨(⟨"PennyMore$Reader", "word", "(Ljava/lang/String;)Z"⟩, prog_7_method_6_code, 3, some (Jvm.ClassFile.FieldType.boolean), 5), ⟨"PennyMore$Reader", "word", "(Ljava/lang/String;)Z"⟩, "PennyMore$Reader", rfl, gw_576, gw_431, gw_577, gw_578, by decide +kernel, by decide +kernel, by decide +kernel, Or.inl rfl⟩, fun _ h => absurd h List.not_mem_nil⟩), List.forall_mem_cons.mpr ⟨(List.forall_mem_cons.mpr ⟨⟨(⟨"java/lang/String", "length", "()I"⟩, prog_17_method_54_code, 1, some (Jvm.ClassFile.FieldType.int), 13), ⟨"java/lang/String", "length", "()I"⟩, "java/lang/String", rfl, gw_579, gw_477, gw_580, gw_581, by decide +kernel, by decide +kernel, by decide +kernel, Or.inl rfl⟩, fun _ h => absurd h List.not_mem_nil⟩), List.forall_mem_cons.mpr ⟨(List.forall_mem_cons.mpr ⟨⟨(⟨"PennyMore$Reader", "next", "()I"⟩, prog_7_method_5_code, 1, some (Jvm.ClassFile.FieldType.int), 5), ⟨"PennyMore$Reader", "next", "()I"⟩, "PennyMore$Reader", rfl, gw_582, gw_431, gw_583, gw_584, by decide +kernel, by decide +kernel, by decide +kernel, Or.inl rfl⟩, fun _ h => absurd h List.not_mem_nil⟩), List.forall_mem_cons.mpr ⟨(List.forall_mem_cons.mpr ⟨⟨(⟨"java/lang/String", "charAt", "(I)C"⟩, prog_17_method_56_code, 2, some (Jvm.ClassFile.FieldType.char), 13), ⟨"java/lang/String", "charAt", "(I)C"⟩, "java/lang/String", rfl, gw_585, gw_477, gw_586, gw_587, by decide +kernel, by decide +kernel, by decide +kernel, Or.inl rfl⟩, fun _ h => absurd h List.not_mem_nil⟩), List.forall_mem_cons.mpr ⟨(List.forall_mem_cons.mpr ⟨⟨(⟨"java/lang/String", "isEmpty", "()Z"⟩, prog_17_method_55_code, 1, some (Jvm.ClassFile.FieldType.boolean), 13), ⟨"java/lang/String", "isEmpty", "()Z"⟩, "java/lang/String", rfl, gw_588, gw_477, gw_589, gw_590, by decide +kernel, by decide +kernel, by decide +kernel, Or.inl rfl⟩, fun _ h => absurd h List.not_mem_nil⟩), List.forall_mem_cons.mpr ⟨(List.forall_mem_cons.mpr ⟨⟨(⟨"PennyMore$Reader", "number", "()I"⟩, prog_7_method_13_code, 3, some (Jvm.ClassFile.FieldType.int), 5), ⟨"PennyMore$Reader", "number", "()I"⟩, "PennyMore$Reader", rfl, gw_591, gw_431, gw_592, gw_593, by decide +kernel, by decide +kernel, by decide +kernel, Or.inl rfl⟩, fun _ h => absurd h List.not_mem_nil⟩), fun _ h => absurd h List.not_mem_nil⟩⟩⟩⟩⟩⟩⟩⟩⟩⟩⟩⟩⟩⟩⟩⟩⟩⟩⟩⟩⟩⟩⟩⟩⟩
theorem mm_VT_1_ok : ∀ e ∈ mm_VT_1, mm_okV e := List.forall_mem_cons.mpr ⟨(List.forall_mem_cons.mpr ⟨⟨(⟨"PennyMore$Reader", "either", "(I)Z"⟩, prog_7_method_9_code, 2, some (Jvm.ClassFile.FieldType.boolean), 5), ⟨"PennyMore$Reader", "either", "(I)Z"⟩, "PennyMore$Reader", rfl, gw_594, gw_431, gw_595, gw_596, by decide +kernel, by decide +kernel, by decide +kernel, Or.inl rfl⟩, fun _ h => absurd h List.not_mem_nil⟩), List.forall_mem_cons.mpr ⟨(List.forall_mem_cons.mpr ⟨⟨(⟨"PennyMore$Shop", "putClause", "(II)V"⟩, prog_8_method_5_code, 3, none, 6), ⟨"PennyMore$Shop", "putClause", "(II)V"⟩, "PennyMore$Shop", rfl, gw_597, gw_434, gw_598, gw_599, by decide +kernel, by decide +kernel, by decide +kernel, Or.inl rfl⟩, fun _ h => absurd h List.not_mem_nil⟩), List.forall_mem_cons.mpr ⟨(List.forall_mem_cons.mpr ⟨⟨(⟨"PennyMore$Reader", "both", "(I)Z"⟩, prog_7_method_10_code, 2, some (Jvm.ClassFile.FieldType.boolean), 5), ⟨"PennyMore$Reader", "both", "(I)Z"⟩, "PennyMore$Reader", rfl, gw_600, gw_431, gw_601, gw_602, by decide +kernel, by decide +kernel, by decide +kernel, Or.inl rfl⟩, fun _ h => absurd h List.not_mem_nil⟩), List.forall_mem_cons.mpr ⟨(List.forall_mem_cons.mpr ⟨⟨(⟨"PennyMore$Shop", "putCode", "(I)V"⟩, prog_8_method_3_code, 2, none, 6), ⟨"PennyMore$Shop", "putCode", "(I)V"⟩, "PennyMore$Shop", rfl, gw_603, gw_434, gw_604, gw_605, by decide +kernel, by decide +kernel, by decide +kernel, Or.inl rfl⟩, fun _ h => absurd h List.not_mem_nil⟩), List.forall_mem_cons.mpr ⟨(List.forall_mem_cons.mpr ⟨⟨(⟨"PennyMore$Reader", "factor", "(I)Z"⟩, prog_7_method_11_code, 3, some (Jvm.ClassFile.FieldType.boolean), 5), ⟨"PennyMore$Reader", "factor", "(I)Z"⟩, "PennyMore$Reader", rfl, gw_606, gw_431, gw_607, gw_608, by decide +kernel, by decide +kernel, by decide +kernel, Or.inl rfl⟩, fun _ h => absurd h List.not_mem_nil⟩), List.forall_mem_cons.mpr ⟨(List.forall_mem_cons.mpr ⟨⟨(⟨"PennyMore$Reader", "test", "()Z"⟩, prog_7_method_12_code, 4, some (Jvm.ClassFile.FieldType.boolean), 5), ⟨"PennyMore$Reader", "test", "()Z"⟩, "PennyMore$Reader", rfl, gw_609, gw_431, gw_610, gw_611, by decide +kernel, by decide +kernel, by decide +kernel, Or.inl rfl⟩, fun _ h => absurd h List.not_mem_nil⟩), List.forall_mem_cons.mpr ⟨(List.forall_mem_cons.mpr ⟨⟨(⟨"java/lang/String", "indexOf", "(I)I"⟩, prog_17_method_79_code, 2, some (Jvm.ClassFile.FieldType.int), 13), ⟨"java/lang/String", "indexOf", "(I)I"⟩, "java/lang/String", rfl, gw_612, gw_477, gw_613, gw_614, by decide +kernel, by decide +kernel, by decide +kernel, Or.inl rfl⟩, fun _ h => absurd h List.not_mem_nil⟩), List.forall_mem_cons.mpr ⟨(List.forall_mem_cons.mpr ⟨⟨(⟨"PennyMore$Shop", "clear", "()V"⟩, prog_8_method_2_code, 1, none, 6), ⟨"PennyMore$Shop", "clear", "()V"⟩, "PennyMore$Shop", rfl, gw_615, gw_434, gw_571, gw_572, by decide +kernel, by decide +kernel, by decide +kernel, Or.inl rfl⟩, fun _ h => absurd h List.not_mem_nil⟩), List.forall_mem_cons.mpr ⟨(List.forall_mem_cons.mpr ⟨⟨(⟨"PennyMore$Shop", "holds", "(II[I)Z"⟩, prog_8_method_7_code, 6, some (Jvm.ClassFile.FieldType.boolean), 6), ⟨"PennyMore$Shop", "holds", "(II[I)Z"⟩, "PennyMore$Shop", rfl, gw_616, gw_434, gw_617, gw_618, by decide +kernel, by decide +kernel, by decide +kernel, Or.inl rfl⟩, fun _ h => absurd h List.not_mem_nil⟩), List.forall_mem_cons.mpr ⟨(List.forall_mem_cons.mpr ⟨⟨(⟨"PennyMore$Day", "mayGoAway", "(I)Z"⟩, prog_3_method_11_code, 2, some (Jvm.ClassFile.FieldType.boolean), 1), ⟨"PennyMore$Day", "mayGoAway", "(I)Z"⟩, "PennyMore$Day", rfl, gw_619, gw_483, gw_567, gw_568, by decide +kernel, by decide +kernel, by decide +kernel, Or.inl rfl⟩, fun _ h => absurd h List.not_mem_nil⟩), List.forall_mem_cons.mpr ⟨(List.forall_mem_cons.mpr ⟨⟨(⟨"PennyMore$Day", "mayGoAway", "(I)Z"⟩, prog_3_method_11_code, 2, some (Jvm.ClassFile.FieldType.boolean), 1), ⟨"PennyMore$Day", "mayGoAway", "(I)Z"⟩, "PennyMore$Day", rfl, gw_620, gw_483, gw_567, gw_568, by decide +kernel, by decide +kernel, by decide +kernel, Or.inl rfl⟩, fun _ h => absurd h List.not_mem_nil⟩), List.forall_mem_cons.mpr ⟨(List.forall_mem_cons.mpr ⟨⟨(⟨"PennyMore$Day", "welcome", "(LPennyMore$Buyer;)V"⟩, prog_3_method_4_code, 4, none, 1), ⟨"PennyMore$Day", "welcome", "(LPennyMore$Buyer;)V"⟩, "PennyMore$Day", rfl, gw_621, gw_483, gw_622, gw_623, by decide +kernel, by decide +kernel, by decide +kernel, Or.inl rfl⟩, fun _ h => absurd h List.not_mem_nil⟩), List.forall_mem_cons.mpr ⟨(List.forall_mem_cons.mpr ⟨⟨(⟨"PennyMore$Day", "knows", "(I)Z"⟩, prog_3_method_3_code, 2, some (Jvm.ClassFile.FieldType.boolean), 1), ⟨"PennyMore$Day", "knows", "(I)Z"⟩, "PennyMore$Day", rfl, gw_624, gw_483, gw_625, gw_626, by decide +kernel, by decide +kernel, by decide +kernel, Or.inl rfl⟩, fun _ h => absurd h List.not_mem_nil⟩), List.forall_mem_cons.mpr ⟨(List.forall_mem_cons.mpr ⟨⟨(⟨"PennyMore$Day", "placeOf", "(I)I"⟩, prog_3_method_7_code, 3, some (Jvm.ClassFile.FieldType.int), 1), ⟨"PennyMore$Day", "placeOf", "(I)I"⟩, "PennyMore$Day", rfl, gw_627, gw_483, gw_520, gw_521, by decide +kernel, by decide +kernel, by decide +kernel, Or.inl rfl⟩, fun _ h => absurd h List.not_mem_nil⟩), List.forall_mem_cons.mpr ⟨(List.forall_mem_cons.mpr ⟨⟨(⟨"PennyMore$Day", "weigh", "(I)V"⟩, prog_3_method_14_code, 2, none, 1), ⟨"PennyMore$Day", "weigh", "(I)V"⟩, "PennyMore$Day", rfl, gw_628, gw_483, gw_532, gw_533, by decide +kernel, by decide +kernel, by decide +kernel, Or.inl rfl⟩, fun _ h => absurd h List.not_mem_nil⟩), List.forall_mem_cons.mpr ⟨(List.forall_mem_cons.mpr ⟨⟨(⟨"PennyMore", "rowDigits", "(I)I"⟩, prog_1_method_39_code, 3, some (Jvm.ClassFile.FieldType.int), 11), ⟨"PennyMore", "rowDigits", "(I)I"⟩, "PennyMore", rfl, gw_629, gw_445, gw_630, gw_631, by decide +kernel, by decide +kernel, by decide +kernel, Or.inl rfl⟩, fun _ h => absurd h List.not_mem_nil⟩), List.forall_mem_cons.mpr ⟨(List.forall_mem_cons.mpr ⟨⟨(⟨"PennyMore$Day", "stand", "(I)V"⟩, prog_3_method_8_code, 2, none, 1), ⟨"PennyMore$Day", "stand", "(I)V"⟩, "PennyMore$Day", rfl, gw_632, gw_483, gw_517, gw_518, by decide +kernel, by decide +kernel, by decide +kernel, Or.inl rfl⟩, fun _ h => absurd h List.not_mem_nil⟩), List.forall_mem_cons.mpr ⟨(List.forall_mem_cons.mpr ⟨⟨(⟨"PennyMore$Reader", "add", "(I)Z"⟩, prog_7_method_2_code, 2, some (Jvm.ClassFile.FieldType.boolean), 5), ⟨"PennyMore$Reader", "add", "(I)Z"⟩, "PennyMore$Reader", rfl, gw_633, gw_431, gw_634, gw_635, by decide +kernel, by decide +kernel, by decide +kernel, Or.inl rfl⟩, fun _ h => absurd h List.not_mem_nil⟩), List.forall_mem_cons.mpr ⟨(List.forall_mem_cons.mpr ⟨⟨(⟨"PennyMore$Reader", "readInto", "(LPennyMore$Shop;)I"⟩, prog_7_method_4_code, 3, some (Jvm.ClassFile.FieldType.int), 5), ⟨"PennyMore$Reader", "readInto", "(LPennyMore$Shop;)I"⟩, "PennyMore$Reader", rfl, gw_636, gw_431, gw_637, gw_638, by decide +kernel, by decide +kernel, by decide +kernel, Or.inl rfl⟩, fun _ h => absurd h List.not_mem_nil⟩), List.forall_mem_cons.mpr ⟨(List.forall_mem_cons.mpr ⟨⟨(⟨"PennyMore$Reader", "empty", "()V"⟩, prog_7_method_3_code, 1, none, 5), ⟨"PennyMore$Reader", "empty", "()V"⟩, "PennyMore$Reader", rfl, gw_639, gw_431, gw_640, gw_641, by decide +kernel, by decide +kernel, by decide +kernel, Or.inl rfl⟩, fun _ h => absurd h List.not_mem_nil⟩), List.forall_mem_cons.mpr ⟨(List.forall_mem_cons.mpr ⟨⟨(⟨"PennyMore$Day", "open", "(LPennyMore$Shop;)V"⟩, prog_3_method_5_code, 2, none, 1), ⟨"PennyMore$Day", "open", "(LPennyMore$Shop;)V"⟩, "PennyMore$Day", rfl, gw_642, gw_483, gw_643, gw_644, by decide +kernel, by decide +kernel, by decide +kernel, Or.inl rfl⟩, fun _ h => absurd h List.not_mem_nil⟩), List.forall_mem_cons.mpr ⟨(List.forall_mem_cons.mpr ⟨⟨(⟨"PennyMore$Day", "head", "()I"⟩, prog_3_method_6_code, 1, some (Jvm.ClassFile.FieldType.int), 1), ⟨"PennyMore$Day", "head", "()I"⟩, "PennyMore$Day", rfl, gw_645, gw_483, gw_646, gw_647, by decide +kernel, by decide +kernel, by decide +kernel, Or.inl rfl⟩, fun _ h => absurd h List.not_mem_nil⟩), List.forall_mem_cons.mpr ⟨(List.forall_mem_cons.mpr ⟨⟨(⟨"PennyMore$Day", "copyOf", "(LPennyMore$Day;)V"⟩, prog_3_method_2_code, 3, none, 1), ⟨"PennyMore$Day", "copyOf", "(LPennyMore$Day;)V"⟩, "PennyMore$Day", rfl, gw_648, gw_483, gw_649, gw_650, by decide +kernel, by decide +kernel, by decide +kernel, Or.inl rfl⟩, fun _ h => absurd h List.not_mem_nil⟩), List.forall_mem_cons.mpr ⟨(List.forall_mem_cons.mpr ⟨⟨(⟨"PennyMore$Day", "putAhead", "(I)V"⟩, prog_3_method_10_code, 3, none, 1), ⟨"PennyMore$Day", "putAhead", "(I)V"⟩, "PennyMore$Day", rfl, gw_651, gw_483, gw_652, gw_653, by decide +kernel, by decide +kernel, by decide +kernel, Or.inl rfl⟩, fun _ h => absurd h List.not_mem_nil⟩), List.forall_mem_cons.mpr ⟨(List.forall_mem_cons.mpr ⟨⟨(⟨"PennyMore$Buyer", "does", "(LPennyMore$Day;)I"⟩, prog_2_method_3_code, 2, some (Jvm.ClassFile.FieldType.int), 0), ⟨"PennyMore$Buyer", "does", "(LPennyMore$Day;)I"⟩, "PennyMore$Buyer", rfl, gw_654, gw_422, gw_535, gw_551, by decide +kernel, by decide +kernel, by decide +kernel, Or.inl rfl⟩, List.forall_mem_cons.mpr ⟨⟨(⟨"PennyMore$Falling", "does", "(LPennyMore$Day;)I"⟩, prog_4_method_2_code, 2, some (Jvm.ClassFile.FieldType.int), 2), ⟨"PennyMore$Buyer", "does", "(LPennyMore$Day;)I"⟩, "PennyMore$Buyer", rfl, gw_654, gw_548, gw_549, gw_550, by decide +kernel, by decide +kernel, by decide +kernel, Or.inr ⟨gw_534, ⟨"PennyMore$Buyer", "does", "(LPennyMore$Day;)I"⟩, _, _, _, rfl, gw_535, gw_232⟩⟩, List.forall_mem_cons.mpr ⟨⟨(⟨"PennyMore$Late", "does", "(LPennyMore$Day;)I"⟩, prog_5_method_2_code, 2, some (Jvm.ClassFile.FieldType.int), 3), ⟨"PennyMore$Buyer", "does", "(LPennyMore$Day;)I"⟩, "PennyMore$Buyer", rfl, gw_654, gw_545, gw_546, gw_547, by decide +kernel, by decide +kernel, by decide +kernel, Or.inr ⟨gw_534, ⟨"PennyMore$Buyer", "does", "(LPennyMore$Day;)I"⟩, _, _, _, rfl, gw_535, gw_232⟩⟩, List.forall_mem_cons.mpr ⟨⟨(⟨"PennyMore$Plain", "does", "(LPennyMore$Day;)I"⟩, prog_6_method_2_code, 2, some (Jvm.ClassFile.FieldType.int), 4), ⟨"PennyMore$Buyer", "does", "(LPennyMore$Day;)I"⟩, "PennyMore$Buyer", rfl, gw_654, gw_510, gw_543, gw_544, by decide +kernel, by decide +kernel, by decide +kernel, Or.inr ⟨gw_534, ⟨"PennyMore$Buyer", "does", "(LPennyMore$Day;)I"⟩, _, _, _, rfl, gw_535, gw_232⟩⟩, List.forall_mem_cons.mpr ⟨⟨(⟨"PennyMore$Sure", "does", "(LPennyMore$Day;)I"⟩, prog_9_method_2_code, 2, some (Jvm.ClassFile.FieldType.int), 7), ⟨"PennyMore$Buyer", "does", "(LPennyMore$Day;)I"⟩, "PennyMore$Buyer", rfl, gw_654, gw_495, gw_541, gw_542, by decide +kernel, by decide +kernel, by decide +kernel, Or.inr ⟨gw_534, ⟨"PennyMore$Buyer", "does", "(LPennyMore$Day;)I"⟩, _, _, _, rfl, gw_535, gw_232⟩⟩, List.forall_mem_cons.mpr ⟨⟨(⟨"PennyMore$Told", "does", "(LPennyMore$Day;)I"⟩, prog_11_method_2_code, 4, some (Jvm.ClassFile.FieldType.int), 9), ⟨"PennyMore$Buyer", "does", "(LPennyMore$Day;)I"⟩, "PennyMore$Buyer", rfl, gw_654, gw_492, gw_539, gw_540, by decide +kernel, by decide +kernel, by decide +kernel, Or.inr ⟨gw_534, ⟨"PennyMore$Buyer", "does", "(LPennyMore$Day;)I"⟩, _, _, _, rfl, gw_535, gw_232⟩⟩, List.forall_mem_cons.mpr ⟨⟨(⟨"PennyMore$Waiting", "does", "(LPennyMore$Day;)I"⟩, prog_12_method_2_code, 2, some (Jvm.ClassFile.FieldType.int), 10), ⟨"PennyMore$Buyer", "does", "(LPennyMore$Day;)I"⟩, "PennyMore$Buyer", rfl, gw_654, gw_489, gw_537, gw_538, by decide +kernel, by decide +kernel, by decide +kernel, Or.inr ⟨gw_534, ⟨"PennyMore$Buyer", "does", "(LPennyMore$Day;)I"⟩, _, _, _, rfl, gw_535, gw_232⟩⟩, fun _ h => absurd h List.not_mem_nil⟩⟩⟩⟩⟩⟩⟩), fun _ h => absurd h List.not_mem_nil⟩⟩⟩⟩⟩⟩⟩⟩⟩⟩⟩⟩⟩⟩⟩⟩⟩⟩⟩⟩⟩⟩⟩⟩⟩
theorem mm_VT_2_ok : ∀ e ∈ mm_VT_2, mm_okV e := List.forall_mem_cons.mpr ⟨(List.forall_mem_cons.mpr ⟨⟨(⟨"PennyMore$Day", "turnComes", "()Z"⟩, prog_3_method_15_code, 1, some (Jvm.ClassFile.FieldType.boolean), 1), ⟨"PennyMore$Day", "turnComes", "()Z"⟩, "PennyMore$Day", rfl, gw_655, gw_483, gw_556, gw_557, by decide +kernel, by decide +kernel, by decide +kernel, Or.inl rfl⟩, fun _ h => absurd h List.not_mem_nil⟩), List.forall_mem_cons.mpr ⟨(List.forall_mem_cons.mpr ⟨⟨(⟨"PennyMore$Day", "turn", "()I"⟩, prog_3_method_16_code, 3, some (Jvm.ClassFile.FieldType.int), 1), ⟨"PennyMore$Day", "turn", "()I"⟩, "PennyMore$Day", rfl, gw_656, gw_483, gw_559, gw_560, by decide +kernel, by decide +kernel, by decide +kernel, Or.inl rfl⟩, fun _ h => absurd h List.not_mem_nil⟩), List.forall_mem_cons.mpr ⟨(List.forall_mem_cons.mpr ⟨⟨(⟨"PennyMore", "runTrial", "()V"⟩, prog_1_method_42_code, 1, none, 11), ⟨"PennyMore", "runTrial", "()V"⟩, "PennyMore", rfl, gw_657, gw_445, gw_658, gw_659, by decide +kernel, by decide +kernel, by decide +kernel, Or.inl rfl⟩, fun _ h => absurd h List.not_mem_nil⟩), List.forall_mem_cons.mpr ⟨(List.forall_mem_cons.mpr ⟨⟨(⟨"PennyMore", "whoGetsLoaves", "()I"⟩, prog_1_method_43_code, 4, some (Jvm.ClassFile.FieldType.int), 11), ⟨"PennyMore", "whoGetsLoaves", "()I"⟩, "PennyMore", rfl, gw_660, gw_445, gw_661, gw_662, by decide +kernel, by decide +kernel, by decide +kernel, Or.inl rfl⟩, fun _ h => absurd h List.not_mem_nil⟩), List.forall_mem_cons.mpr ⟨(List.forall_mem_cons.mpr ⟨⟨(⟨"PennyMore$Day", "mayGoAway", "(I)Z"⟩, prog_3_method_11_code, 2, some (Jvm.ClassFile.FieldType.boolean), 1), ⟨"PennyMore$Day", "mayGoAway", "(I)Z"⟩, "PennyMore$Day", rfl, gw_663, gw_483, gw_567, gw_568, by decide +kernel, by decide +kernel, by decide +kernel, Or.inl rfl⟩, fun _ h => absurd h List.not_mem_nil⟩), List.forall_mem_cons.mpr ⟨(List.forall_mem_cons.mpr ⟨⟨(⟨"PennyMore", "gainByFirst", "(III)I"⟩, prog_1_method_45_code, 4, some (Jvm.ClassFile.FieldType.int), 11), ⟨"PennyMore", "gainByFirst", "(III)I"⟩, "PennyMore", rfl, gw_664, gw_445, gw_665, gw_666, by decide +kernel, by decide +kernel, by decide +kernel, Or.inl rfl⟩, fun _ h => absurd h List.not_mem_nil⟩), List.forall_mem_cons.mpr ⟨(List.forall_mem_cons.mpr ⟨⟨(⟨"PennyMore", "findBestLineup", "(I)I"⟩, prog_1_method_48_code, 6, some (Jvm.ClassFile.FieldType.int), 11), ⟨"PennyMore", "findBestLineup", "(I)I"⟩, "PennyMore", rfl, gw_667, gw_445, gw_668, gw_669, by decide +kernel, by decide +kernel, by decide +kernel, Or.inl rfl⟩, fun _ h => absurd h List.not_mem_nil⟩), List.forall_mem_cons.mpr ⟨(List.forall_mem_cons.mpr ⟨⟨(⟨"PennyMore$Day", "toEnd", "()V"⟩, prog_3_method_18_code, 2, none, 1), ⟨"PennyMore$Day", "toEnd", "()V"⟩, "PennyMore$Day", rfl, gw_670, gw_483, gw_671, gw_672, by decide +kernel, by decide +kernel, by decide +kernel, Or.inl rfl⟩, fun _ h => absurd h List.not_mem_nil⟩), List.forall_mem_cons.mpr ⟨(List.forall_mem_cons.mpr ⟨⟨(⟨"PennyMore", "bothLikeSwap", "(I)Z"⟩, prog_1_method_46_code, 6, some (Jvm.ClassFile.FieldType.boolean), 11), ⟨"PennyMore", "bothLikeSwap", "(I)Z"⟩, "PennyMore", rfl, gw_673, gw_445, gw_674, gw_675, by decide +kernel, by decide +kernel, by decide +kernel, Or.inl rfl⟩, fun _ h => absurd h List.not_mem_nil⟩), List.forall_mem_cons.mpr ⟨(List.forall_mem_cons.mpr ⟨⟨(⟨"PennyMore", "startLineups", "()V"⟩, prog_1_method_49_code, 3, none, 11), ⟨"PennyMore", "startLineups", "()V"⟩, "PennyMore", rfl, gw_676, gw_445, gw_677, gw_678, by decide +kernel, by decide +kernel, by decide +kernel, Or.inl rfl⟩, fun _ h => absurd h List.not_mem_nil⟩), List.forall_mem_cons.mpr ⟨(List.forall_mem_cons.mpr ⟨⟨(⟨"PennyMore", "standAsLineup", "()V"⟩, prog_1_method_50_code, 1, none, 11), ⟨"PennyMore", "standAsLineup", "()V"⟩, "PennyMore", rfl, gw_679, gw_445, gw_680, gw_681, by decide +kernel, by decide +kernel, by decide +kernel, Or.inl rfl⟩, fun _ h => absurd h List.not_mem_nil⟩), List.forall_mem_cons.mpr ⟨(List.forall_mem_cons.mpr ⟨⟨(⟨"PennyMore", "nextLineup", "()Z"⟩, prog_1_method_51_code, 5, some (Jvm.ClassFile.FieldType.boolean), 11), ⟨"PennyMore", "nextLineup", "()Z"⟩, "PennyMore", rfl, gw_682, gw_445, gw_683, gw_684, by decide +kernel, by decide +kernel, by decide +kernel, Or.inl rfl⟩, fun _ h => absurd h List.not_mem_nil⟩), List.forall_mem_cons.mpr ⟨(List.forall_mem_cons.mpr ⟨⟨(⟨"PennyMore", "nobodyRefuses", "(I)Z"⟩, prog_1_method_44_code, 3, some (Jvm.ClassFile.FieldType.boolean), 11), ⟨"PennyMore", "nobodyRefuses", "(I)Z"⟩, "PennyMore", rfl, gw_685, gw_445, gw_686, gw_687, by decide +kernel, by decide +kernel, by decide +kernel, Or.inl rfl⟩, fun _ h => absurd h List.not_mem_nil⟩), List.forall_mem_cons.mpr ⟨(List.forall_mem_cons.mpr ⟨⟨(⟨"PennyMore", "takersAt", "(I)I"⟩, prog_1_method_47_code, 4, some (Jvm.ClassFile.FieldType.int), 11), ⟨"PennyMore", "takersAt", "(I)I"⟩, "PennyMore", rfl, gw_688, gw_445, gw_689, gw_690, by decide +kernel, by decide +kernel, by decide +kernel, Or.inl rfl⟩, fun _ h => absurd h List.not_mem_nil⟩), List.forall_mem_cons.mpr ⟨(List.forall_mem_cons.mpr ⟨⟨(⟨"PennyMore$Day", "leave", "(I)V"⟩, prog_3_method_9_code, 3, none, 1), ⟨"PennyMore$Day", "leave", "(I)V"⟩, "PennyMore$Day", rfl, gw_691, gw_483, gw_523, gw_524, by decide +kernel, by decide +kernel, by decide +kernel, Or.inl rfl⟩, fun _ h => absurd h List.not_mem_nil⟩), List.forall_mem_cons.mpr ⟨(List.forall_mem_cons.mpr ⟨⟨(⟨"PennyMore", "weightOf", "(I)J"⟩, prog_1_method_53_code, 5, some (Jvm.ClassFile.FieldType.long), 11), ⟨"PennyMore", "weightOf", "(I)J"⟩, "PennyMore", rfl, gw_692, gw_445, gw_693, gw_694, by decide +kernel, by decide +kernel, by decide +kernel, Or.inl rfl⟩, fun _ h => absurd h List.not_mem_nil⟩), List.forall_mem_cons.mpr ⟨(List.forall_mem_cons.mpr ⟨⟨(⟨"PennyMore", "whoSaysYes", "(I)I"⟩, prog_1_method_54_code, 7, some (Jvm.ClassFile.FieldType.int), 11), ⟨"PennyMore", "whoSaysYes", "(I)I"⟩, "PennyMore", rfl, gw_695, gw_445, gw_696, gw_697, by decide +kernel, by decide +kernel, by decide +kernel, Or.inl rfl⟩, fun _ h => absurd h List.not_mem_nil⟩), List.forall_mem_cons.mpr ⟨(List.forall_mem_cons.mpr ⟨⟨(⟨"PennyMore$Tape", "holdsNothing", "()Z"⟩, prog_10_method_3_code, 1, some (Jvm.ClassFile.FieldType.boolean), 8), ⟨"PennyMore$Tape", "holdsNothing", "()Z"⟩, "PennyMore$Tape", rfl, gw_698, gw_699, gw_700, gw_701, by decide +kernel, by decide +kernel, by decide +kernel, Or.inl rfl⟩, fun _ h => absurd h List.not_mem_nil⟩), List.forall_mem_cons.mpr ⟨(List.forall_mem_cons.mpr ⟨⟨(⟨"PennyMore$Buyer", "bids", "(I[I)I"⟩, prog_2_method_4_code, 3, some (Jvm.ClassFile.FieldType.int), 0), ⟨"PennyMore$Buyer", "bids", "(I[I)I"⟩, "PennyMore$Buyer", rfl, gw_702, gw_422, gw_487, gw_501, by decide +kernel, by decide +kernel, by decide +kernel, Or.inl rfl⟩, List.forall_mem_cons.mpr ⟨⟨(⟨"PennyMore$Buyer", "bids", "(I[I)I"⟩, prog_2_method_4_code, 3, some (Jvm.ClassFile.FieldType.int), 0), ⟨"PennyMore$Buyer", "bids", "(I[I)I"⟩, "PennyMore$Buyer", rfl, gw_702, gw_422, gw_487, gw_500, by decide +kernel, by decide +kernel, by decide +kernel, Or.inr ⟨gw_486, ⟨"PennyMore$Buyer", "bids", "(I[I)I"⟩, _, _, _, rfl, gw_487, gw_231⟩⟩, List.forall_mem_cons.mpr ⟨⟨(⟨"PennyMore$Waiting", "bids", "(I[I)I"⟩, prog_12_method_3_code, 3, some (Jvm.ClassFile.FieldType.int), 10), ⟨"PennyMore$Buyer", "bids", "(I[I)I"⟩, "PennyMore$Buyer", rfl, gw_702, gw_489, gw_490, gw_499, by decide +kernel, by decide +kernel, by decide +kernel, Or.inr ⟨gw_486, ⟨"PennyMore$Buyer", "bids", "(I[I)I"⟩, _, _, _, rfl, gw_487, gw_231⟩⟩, List.forall_mem_cons.mpr ⟨⟨(⟨"PennyMore$Buyer", "bids", "(I[I)I"⟩, prog_2_method_4_code, 3, some (Jvm.ClassFile.FieldType.int), 0), ⟨"PennyMore$Buyer", "bids", "(I[I)I"⟩, "PennyMore$Buyer", rfl, gw_702, gw_422, gw_487, gw_498, by decide +kernel, by decide +kernel, by decide +kernel, Or.inr ⟨gw_486, ⟨"PennyMore$Buyer", "bids", "(I[I)I"⟩, _, _, _, rfl, gw_487, gw_231⟩⟩, List.forall_mem_cons.mpr ⟨⟨(⟨"PennyMore$Sure", "bids", "(I[I)I"⟩, prog_9_method_3_code, 3, some (Jvm.ClassFile.FieldType.int), 7), ⟨"PennyMore$Buyer", "bids", "(I[I)I"⟩, "PennyMore$Buyer", rfl, gw_702, gw_495, gw_496, gw_497, by decide +kernel, by decide +kernel, by decide +kernel, Or.inr ⟨gw_486, ⟨"PennyMore$Buyer", "bids", "(I[I)I"⟩, _, _, _, rfl, gw_487, gw_231⟩⟩, List.forall_mem_cons.mpr ⟨⟨(⟨"PennyMore$Told", "bids", "(I[I)I"⟩, prog_11_method_4_code, 3, some (Jvm.ClassFile.FieldType.int), 9), ⟨"PennyMore$Buyer", "bids", "(I[I)I"⟩, "PennyMore$Buyer", rfl, gw_702, gw_492, gw_493, gw_494, by decide +kernel, by decide +kernel, by decide +kernel, Or.inr ⟨gw_486, ⟨"PennyMore$Buyer", "bids", "(I[I)I"⟩, _, _, _, rfl, gw_487, gw_231⟩⟩, List.forall_mem_cons.mpr ⟨⟨(⟨"PennyMore$Waiting", "bids", "(I[I)I"⟩, prog_12_method_3_code, 3, some (Jvm.ClassFile.FieldType.int), 10), ⟨"PennyMore$Buyer", "bids", "(I[I)I"⟩, "PennyMore$Buyer", rfl, gw_702, gw_489, gw_490, gw_491, by decide +kernel, by decide +kernel, by decide +kernel, Or.inr ⟨gw_486, ⟨"PennyMore$Buyer", "bids", "(I[I)I"⟩, _, _, _, rfl, gw_487, gw_231⟩⟩, fun _ h => absurd h List.not_mem_nil⟩⟩⟩⟩⟩⟩⟩), List.forall_mem_cons.mpr ⟨(List.forall_mem_cons.mpr ⟨⟨(⟨"PennyMore$Buyer", "waits", "(I[I)I"⟩, prog_2_method_5_code, 3, some (Jvm.ClassFile.FieldType.int), 0), ⟨"PennyMore$Buyer", "waits", "(I[I)I"⟩, "PennyMore$Buyer", rfl, gw_703, gw_422, gw_503, gw_515, by decide +kernel, by decide +kernel, by decide +kernel, Or.inl rfl⟩, List.forall_mem_cons.mpr ⟨⟨(⟨"PennyMore$Buyer", "waits", "(I[I)I"⟩, prog_2_method_5_code, 3, some (Jvm.ClassFile.FieldType.int), 0), ⟨"PennyMore$Buyer", "waits", "(I[I)I"⟩, "PennyMore$Buyer", rfl, gw_703, gw_422, gw_503, gw_514, by decide +kernel, by decide +kernel, by decide +kernel, Or.inr ⟨gw_502, ⟨"PennyMore$Buyer", "waits", "(I[I)I"⟩, _, _, _, rfl, gw_503, gw_230⟩⟩, List.forall_mem_cons.mpr ⟨⟨(⟨"PennyMore$Buyer", "waits", "(I[I)I"⟩, prog_2_method_5_code, 3, some (Jvm.ClassFile.FieldType.int), 0), ⟨"PennyMore$Buyer", "waits", "(I[I)I"⟩, "PennyMore$Buyer", rfl, gw_703, gw_422, gw_503, gw_513, by decide +kernel, by decide +kernel, by decide +kernel, Or.inr ⟨gw_502, ⟨"PennyMore$Buyer", "waits", "(I[I)I"⟩, _, _, _, rfl, gw_503, gw_230⟩⟩, List.forall_mem_cons.mpr ⟨⟨(⟨"PennyMore$Plain", "waits", "(I[I)I"⟩, prog_6_method_3_code, 3, some (Jvm.ClassFile.FieldType.int), 4), ⟨"PennyMore$Buyer", "waits", "(I[I)I"⟩, "PennyMore$Buyer", rfl, gw_703, gw_510, gw_511, gw_512, by decide +kernel, by decide +kernel, by decide +kernel, Or.inr ⟨gw_502, ⟨"PennyMore$Buyer", "waits", "(I[I)I"⟩, _, _, _, rfl, gw_503, gw_230⟩⟩, List.forall_mem_cons.mpr ⟨⟨(⟨"PennyMore$Sure", "waits", "(I[I)I"⟩, prog_9_method_4_code, 3, some (Jvm.ClassFile.FieldType.int), 7), ⟨"PennyMore$Buyer", "waits", "(I[I)I"⟩, "PennyMore$Buyer", rfl, gw_703, gw_495, gw_508, gw_509, by decide +kernel, by decide +kernel, by decide +kernel, Or.inr ⟨gw_502, ⟨"PennyMore$Buyer", "waits", "(I[I)I"⟩, _, _, _, rfl, gw_503, gw_230⟩⟩, List.forall_mem_cons.mpr ⟨⟨(⟨"PennyMore$Told", "waits", "(I[I)I"⟩, prog_11_method_3_code, 3, some (Jvm.ClassFile.FieldType.int), 9), ⟨"PennyMore$Buyer", "waits", "(I[I)I"⟩, "PennyMore$Buyer", rfl, gw_703, gw_492, gw_506, gw_507, by decide +kernel, by decide +kernel, by decide +kernel, Or.inr ⟨gw_502, ⟨"PennyMore$Buyer", "waits", "(I[I)I"⟩, _, _, _, rfl, gw_503, gw_230⟩⟩, List.forall_mem_cons.mpr ⟨⟨(⟨"PennyMore$Buyer", "waits", "(I[I)I"⟩, prog_2_method_5_code, 3, some (Jvm.ClassFile.FieldType.int), 0), ⟨"PennyMore$Buyer", "waits", "(I[I)I"⟩, "PennyMore$Buyer", rfl, gw_703, gw_422, gw_503, gw_505, by decide +kernel, by decide +kernel, by decide +kernel, Or.inr ⟨gw_502, ⟨"PennyMore$Buyer", "waits", "(I[I)I"⟩, _, _, _, rfl, gw_503, gw_230⟩⟩, fun _ h => absurd h List.not_mem_nil⟩⟩⟩⟩⟩⟩⟩), List.forall_mem_cons.mpr ⟨(List.forall_mem_cons.mpr ⟨⟨(⟨"PennyMore$Buyer", "tells", "(I[I)I"⟩, prog_2_method_6_code, 3, some (Jvm.ClassFile.FieldType.int), 0), ⟨"PennyMore$Buyer", "tells", "(I[I)I"⟩, "PennyMore$Buyer", rfl, gw_706, gw_422, gw_705, gw_715, by decide +kernel, by decide +kernel, by decide +kernel, Or.inl rfl⟩, List.forall_mem_cons.mpr ⟨⟨(⟨"PennyMore$Falling", "tells", "(I[I)I"⟩, prog_4_method_3_code, 3, some (Jvm.ClassFile.FieldType.int), 2), ⟨"PennyMore$Buyer", "tells", "(I[I)I"⟩, "PennyMore$Buyer", rfl, gw_706, gw_548, gw_708, gw_714, by decide +kernel, by decide +kernel, by decide +kernel, Or.inr ⟨gw_704, ⟨"PennyMore$Buyer", "tells", "(I[I)I"⟩, _, _, _, rfl, gw_705, gw_229⟩⟩, List.forall_mem_cons.mpr ⟨⟨(⟨"PennyMore$Late", "tells", "(I[I)I"⟩, prog_5_method_3_code, 3, some (Jvm.ClassFile.FieldType.int), 3), ⟨"PennyMore$Buyer", "tells", "(I[I)I"⟩, "PennyMore$Buyer", rfl, gw_706, gw_545, gw_712, gw_713, by decide +kernel, by decide +kernel, by decide +kernel, Or.inr ⟨gw_704, ⟨"PennyMore$Buyer", "tells", "(I[I)I"⟩, _, _, _, rfl, gw_705, gw_229⟩⟩, List.forall_mem_cons.mpr ⟨⟨(⟨"PennyMore$Buyer", "tells", "(I[I)I"⟩, prog_2_method_6_code, 3, some (Jvm.ClassFile.FieldType.int), 0), ⟨"PennyMore$Buyer", "tells", "(I[I)I"⟩, "PennyMore$Buyer", rfl, gw_706, gw_422, gw_705, gw_711, by decide +kernel, by decide +kernel, by decide +kernel, Or.inr ⟨gw_704, ⟨"PennyMore$Buyer", "tells", "(I[I)I"⟩, _, _, _, rfl, gw_705, gw_229⟩⟩, List.forall_mem_cons.mpr ⟨⟨(⟨"PennyMore$Buyer", "tells", "(I[I)I"⟩, prog_2_method_6_code, 3, some (Jvm.ClassFile.FieldType.int), 0), ⟨"PennyMore$Buyer", "tells", "(I[I)I"⟩, "PennyMore$Buyer", rfl, gw_706, gw_422, gw_705, gw_710, by decide +kernel, by decide +kernel, by decide +kernel, Or.inr ⟨gw_704, ⟨"PennyMore$Buyer", "tells", "(I[I)I"⟩, _, _, _, rfl, gw_705, gw_229⟩⟩, List.forall_mem_cons.mpr ⟨⟨(⟨"PennyMore$Falling", "tells", "(I[I)I"⟩, prog_4_method_3_code, 3, some (Jvm.ClassFile.FieldType.int), 2), ⟨"PennyMore$Buyer", "tells", "(I[I)I"⟩, "PennyMore$Buyer", rfl, gw_706, gw_548, gw_708, gw_709, by decide +kernel, by decide +kernel, by decide +kernel, Or.inr ⟨gw_704, ⟨"PennyMore$Buyer", "tells", "(I[I)I"⟩, _, _, _, rfl, gw_705, gw_229⟩⟩, List.forall_mem_cons.mpr ⟨⟨(⟨"PennyMore$Buyer", "tells", "(I[I)I"⟩, prog_2_method_6_code, 3, some (Jvm.ClassFile.FieldType.int), 0), ⟨"PennyMore$Buyer", "tells", "(I[I)I"⟩, "PennyMore$Buyer", rfl, gw_706, gw_422, gw_705, gw_707, by decide +kernel, by decide +kernel, by decide +kernel, Or.inr ⟨gw_704, ⟨"PennyMore$Buyer", "tells", "(I[I)I"⟩, _, _, _, rfl, gw_705, gw_229⟩⟩, fun _ h => absurd h List.not_mem_nil⟩⟩⟩⟩⟩⟩⟩), List.forall_mem_cons.mpr ⟨(List.forall_mem_cons.mpr ⟨⟨(⟨"PennyMore$Tape", "become", "(II)V"⟩, prog_10_method_2_code, 4, none, 8), ⟨"PennyMore$Tape", "become", "(II)V"⟩, "PennyMore$Tape", rfl, gw_716, gw_699, gw_717, gw_718, by decide +kernel, by decide +kernel, by decide +kernel, Or.inl rfl⟩, fun _ h => absurd h List.not_mem_nil⟩), List.forall_mem_cons.mpr ⟨(List.forall_mem_cons.mpr ⟨⟨(⟨"PennyMore$Tape", "hasPlace", "(I)Z"⟩, prog_10_method_4_code, 2, some (Jvm.ClassFile.FieldType.boolean), 8), ⟨"PennyMore$Tape", "hasPlace", "(I)Z"⟩, "PennyMore$Tape", rfl, gw_719, gw_699, gw_720, gw_721, by decide +kernel, by decide +kernel, by decide +kernel, Or.inl rfl⟩, fun _ h => absurd h List.not_mem_nil⟩), List.forall_mem_cons.mpr ⟨(List.forall_mem_cons.mpr ⟨⟨(⟨"PennyMore$Tape", "narrowed", "(J)J"⟩, prog_10_method_6_code, 3, some (Jvm.ClassFile.FieldType.long), 8), ⟨"PennyMore$Tape", "narrowed", "(J)J"⟩, "PennyMore$Tape", rfl, gw_722, gw_699, gw_723, gw_724, by decide +kernel, by decide +kernel, by decide +kernel, Or.inl rfl⟩, fun _ h => absurd h List.not_mem_nil⟩), List.forall_mem_cons.mpr ⟨(List.forall_mem_cons.mpr ⟨⟨(⟨"PennyMore$Tape", "hasStretch", "(II)Z"⟩, prog_10_method_5_code, 3, some (Jvm.ClassFile.FieldType.boolean), 8), ⟨"PennyMore$Tape", "hasStretch", "(II)Z"⟩, "PennyMore$Tape", rfl, gw_725, gw_699, gw_726, gw_727, by decide +kernel, by decide +kernel, by decide +kernel, Or.inl rfl⟩, fun _ h => absurd h List.not_mem_nil⟩), fun _ h => absurd h List.not_mem_nil⟩⟩⟩⟩⟩⟩⟩⟩⟩⟩⟩⟩⟩⟩⟩⟩⟩⟩⟩⟩⟩⟩⟩⟩⟩
theorem mm_VT_3_ok : ∀ e ∈ mm_VT_3, mm_okV e := List.forall_mem_cons.mpr ⟨(List.forall_mem_cons.mpr ⟨⟨(⟨"PennyMore$Day", "carryOut", "(I)V"⟩, prog_3_method_17_code, 3, none, 1), ⟨"PennyMore$Day", "carryOut", "(I)V"⟩, "PennyMore$Day", rfl, gw_728, gw_483, gw_553, gw_554, by decide +kernel, by decide +kernel, by decide +kernel, Or.inl rfl⟩, fun _ h => absurd h List.not_mem_nil⟩), List.forall_mem_cons.mpr ⟨(List.forall_mem_cons.mpr ⟨⟨(⟨"PennyMore$Day", "gainedByAll", "()I"⟩, prog_3_method_19_code, 3, some (Jvm.ClassFile.FieldType.int), 1), ⟨"PennyMore$Day", "gainedByAll", "()I"⟩, "PennyMore$Day", rfl, gw_729, gw_483, gw_730, gw_731, by decide +kernel, by decide +kernel, by decide +kernel, Or.inl rfl⟩, fun _ h => absurd h List.not_mem_nil⟩), List.forall_mem_cons.mpr ⟨(List.forall_mem_cons.mpr ⟨⟨(⟨"PennyMore", "swapInLineup", "(II)V"⟩, prog_1_method_52_code, 4, none, 11), ⟨"PennyMore", "swapInLineup", "(II)V"⟩, "PennyMore", rfl, gw_732, gw_445, gw_733, gw_734, by decide +kernel, by decide +kernel, by decide +kernel, Or.inl rfl⟩, fun _ h => absurd h List.not_mem_nil⟩), List.forall_mem_cons.mpr ⟨(List.forall_mem_cons.mpr ⟨⟨(⟨"PennyMoreModel", "isBuyer", "(I)Z"⟩, prog_14_method_4_code, 2, some (Jvm.ClassFile.FieldType.boolean), 12), ⟨"PennyMoreModel", "isBuyer", "(I)Z"⟩, "PennyMoreModel", rfl, gw_735, gw_456, gw_736, gw_737, by decide +kernel, by decide +kernel, by decide +kernel, Or.inl rfl⟩, fun _ h => absurd h List.not_mem_nil⟩), List.forall_mem_cons.mpr ⟨(List.forall_mem_cons.mpr ⟨⟨(⟨"PennyMoreModel", "placeOf", "(I)I"⟩, prog_14_method_5_code, 3, some (Jvm.ClassFile.FieldType.int), 12), ⟨"PennyMoreModel", "placeOf", "(I)I"⟩, "PennyMoreModel", rfl, gw_738, gw_456, gw_739, gw_740, by decide +kernel, by decide +kernel, by decide +kernel, Or.inl rfl⟩, fun _ h => absurd h List.not_mem_nil⟩), List.forall_mem_cons.mpr ⟨(List.forall_mem_cons.mpr ⟨⟨(⟨"PennyMoreModel", "valueOf", "(I)I"⟩, prog_14_method_31_code, 2, some (Jvm.ClassFile.FieldType.int), 12), ⟨"PennyMoreModel", "valueOf", "(I)I"⟩, "PennyMoreModel", rfl, gw_741, gw_456, gw_742, gw_743, by decide +kernel, by decide +kernel, by decide +kernel, Or.inl rfl⟩, fun _ h => absurd h List.not_mem_nil⟩), List.forall_mem_cons.mpr ⟨(List.forall_mem_cons.mpr ⟨⟨(⟨"PennyMoreModel", "costOf", "(I)I"⟩, prog_14_method_32_code, 2, some (Jvm.ClassFile.FieldType.int), 12), ⟨"PennyMoreModel", "costOf", "(I)I"⟩, "PennyMoreModel", rfl, gw_744, gw_456, gw_745, gw_746, by decide +kernel, by decide +kernel, by decide +kernel, Or.inl rfl⟩, fun _ h => absurd h List.not_mem_nil⟩), List.forall_mem_cons.mpr ⟨(List.forall_mem_cons.mpr ⟨⟨(⟨"PennyMoreModel", "sign", "()I"⟩, prog_14_method_14_code, 1, some (Jvm.ClassFile.FieldType.int), 12), ⟨"PennyMoreModel", "sign", "()I"⟩, "PennyMoreModel", rfl, gw_747, gw_456, gw_748, gw_749, by decide +kernel, by decide +kernel, by decide +kernel, Or.inl rfl⟩, fun _ h => absurd h List.not_mem_nil⟩), List.forall_mem_cons.mpr ⟨(List.forall_mem_cons.mpr ⟨⟨(⟨"PennyMoreModel", "goesBy", "(I)Z"⟩, prog_14_method_16_code, 2, some (Jvm.ClassFile.FieldType.boolean), 12), ⟨"PennyMoreModel", "goesBy", "(I)Z"⟩, "PennyMoreModel", rfl, gw_750, gw_456, gw_751, gw_752, by decide +kernel, by decide +kernel, by decide +kernel, Or.inl rfl⟩, fun _ h => absurd h List.not_mem_nil⟩), List.forall_mem_cons.mpr ⟨(List.forall_mem_cons.mpr ⟨⟨(⟨"PennyMoreModel", "numberRead", "()I"⟩, prog_14_method_17_code, 2, some (Jvm.ClassFile.FieldType.int), 12), ⟨"PennyMoreModel", "numberRead", "()I"⟩, "PennyMoreModel", rfl, gw_753, gw_456, gw_754, gw_755, by decide +kernel, by decide +kernel, by decide +kernel, Or.inl rfl⟩, fun _ h => absurd h List.not_mem_nil⟩), List.forall_mem_cons.mpr ⟨(List.forall_mem_cons.mpr ⟨⟨(⟨"PennyMoreModel", "codes", "(I)V"⟩, prog_14_method_19_code, 2, none, 12), ⟨"PennyMoreModel", "codes", "(I)V"⟩, "PennyMoreModel", rfl, gw_756, gw_456, gw_757, gw_758, by decide +kernel, by decide +kernel, by decide +kernel, Or.inl rfl⟩, fun _ h => absurd h List.not_mem_nil⟩), List.forall_mem_cons.mpr ⟨(List.forall_mem_cons.mpr ⟨⟨(⟨"PennyMoreModel", "opens", "(I)Z"⟩, prog_14_method_23_code, 2, some (Jvm.ClassFile.FieldType.boolean), 12), ⟨"PennyMoreModel", "opens", "(I)Z"⟩, "PennyMoreModel", rfl, gw_759, gw_456, gw_760, gw_761, by decide +kernel, by decide +kernel, by decide +kernel, Or.inl rfl⟩, fun _ h => absurd h List.not_mem_nil⟩), List.forall_mem_cons.mpr ⟨(List.forall_mem_cons.mpr ⟨⟨(⟨"PennyMoreModel", "testRead", "()Z"⟩, prog_14_method_20_code, 4, some (Jvm.ClassFile.FieldType.boolean), 12), ⟨"PennyMoreModel", "testRead", "()Z"⟩, "PennyMoreModel", rfl, gw_762, gw_456, gw_763, gw_764, by decide +kernel, by decide +kernel, by decide +kernel, Or.inl rfl⟩, fun _ h => absurd h List.not_mem_nil⟩), List.forall_mem_cons.mpr ⟨(List.forall_mem_cons.mpr ⟨⟨(⟨"PennyMoreModel", "noMoreNots", "()V"⟩, prog_14_method_21_code, 1, none, 12), ⟨"PennyMoreModel", "noMoreNots", "()V"⟩, "PennyMoreModel", rfl, gw_765, gw_456, gw_766, gw_767, by decide +kernel, by decide +kernel, by decide +kernel, Or.inl rfl⟩, fun _ h => absurd h List.not_mem_nil⟩), List.forall_mem_cons.mpr ⟨(List.forall_mem_cons.mpr ⟨⟨(⟨"PennyMoreModel", "unwinds", "(I)V"⟩, prog_14_method_22_code, 2, none, 12), ⟨"PennyMoreModel", "unwinds", "(I)V"⟩, "PennyMoreModel", rfl, gw_768, gw_456, gw_769, gw_770, by decide +kernel, by decide +kernel, by decide +kernel, Or.inl rfl⟩, fun _ h => absurd h List.not_mem_nil⟩), List.forall_mem_cons.mpr ⟨(List.forall_mem_cons.mpr ⟨⟨(⟨"PennyMoreModel", "wordRead", "()I"⟩, prog_14_method_18_code, 3, some (Jvm.ClassFile.FieldType.int), 12), ⟨"PennyMoreModel", "wordRead", "()I"⟩, "PennyMoreModel", rfl, gw_771, gw_456, gw_772, gw_773, by decide +kernel, by decide +kernel, by decide +kernel, Or.inl rfl⟩, fun _ h => absurd h List.not_mem_nil⟩), List.forall_mem_cons.mpr ⟨(List.forall_mem_cons.mpr ⟨⟨(⟨"PennyMoreModel", "eRead", "()Z"⟩, prog_14_method_24_code, 3, some (Jvm.ClassFile.FieldType.boolean), 12), ⟨"PennyMoreModel", "eRead", "()Z"⟩, "PennyMoreModel", rfl, gw_774, gw_456, gw_775, gw_776, by decide +kernel, by decide +kernel, by decide +kernel, Or.inl rfl⟩, fun _ h => absurd h List.not_mem_nil⟩), List.forall_mem_cons.mpr ⟨(List.forall_mem_cons.mpr ⟨⟨(⟨"PennyMoreModel", "clauseRead", "()Z"⟩, prog_14_method_25_code, 4, some (Jvm.ClassFile.FieldType.boolean), 12), ⟨"PennyMoreModel", "clauseRead", "()Z"⟩, "PennyMoreModel", rfl, gw_777, gw_456, gw_778, gw_779, by decide +kernel, by decide +kernel, by decide +kernel, Or.inl rfl⟩, fun _ h => absurd h List.not_mem_nil⟩), List.forall_mem_cons.mpr ⟨(List.forall_mem_cons.mpr ⟨⟨(⟨"PennyMoreModel", "shopRead", "()I"⟩, prog_14_method_26_code, 1, some (Jvm.ClassFile.FieldType.int), 12), ⟨"PennyMoreModel", "shopRead", "()I"⟩, "PennyMoreModel", rfl, gw_780, gw_456, gw_781, gw_782, by decide +kernel, by decide +kernel, by decide +kernel, Or.inl rfl⟩, fun _ h => absurd h List.not_mem_nil⟩), List.forall_mem_cons.mpr ⟨(List.forall_mem_cons.mpr ⟨⟨(⟨"PennyMoreModel", "testOf", "(II)I"⟩, prog_14_method_28_code, 3, some (Jvm.ClassFile.FieldType.int), 12), ⟨"PennyMoreModel", "testOf", "(II)I"⟩, "PennyMoreModel", rfl, gw_783, gw_456, gw_784, gw_785, by decide +kernel, by decide +kernel, by decide +kernel, Or.inl rfl⟩, fun _ h => absurd h List.not_mem_nil⟩), List.forall_mem_cons.mpr ⟨(List.forall_mem_cons.mpr ⟨⟨(⟨"PennyMoreModel", "doesHold", "(II)Z"⟩, prog_14_method_29_code, 8, some (Jvm.ClassFile.FieldType.boolean), 12), ⟨"PennyMoreModel", "doesHold", "(II)Z"⟩, "PennyMoreModel", rfl, gw_786, gw_456, gw_787, gw_788, by decide +kernel, by decide +kernel, by decide +kernel, Or.inl rfl⟩, fun _ h => absurd h List.not_mem_nil⟩), List.forall_mem_cons.mpr ⟨(List.forall_mem_cons.mpr ⟨⟨(⟨"PennyMoreModel", "sumOf", "(II)I"⟩, prog_14_method_30_code, 5, some (Jvm.ClassFile.FieldType.int), 12), ⟨"PennyMoreModel", "sumOf", "(II)I"⟩, "PennyMoreModel", rfl, gw_789, gw_456, gw_790, gw_791, by decide +kernel, by decide +kernel, by decide +kernel, Or.inl rfl⟩, fun _ h => absurd h List.not_mem_nil⟩), List.forall_mem_cons.mpr ⟨(List.forall_mem_cons.mpr ⟨⟨(⟨"PennyMoreModel", "lawOf", "(I)I"⟩, prog_14_method_33_code, 4, some (Jvm.ClassFile.FieldType.int), 12), ⟨"PennyMoreModel", "lawOf", "(I)I"⟩, "PennyMoreModel", rfl, gw_792, gw_456, gw_793, gw_794, by decide +kernel, by decide +kernel, by decide +kernel, Or.inl rfl⟩, fun _ h => absurd h List.not_mem_nil⟩), List.forall_mem_cons.mpr ⟨(List.forall_mem_cons.mpr ⟨⟨(⟨"PennyMoreModel", "gainOf", "(I)I"⟩, prog_14_method_36_code, 2, some (Jvm.ClassFile.FieldType.int), 12), ⟨"PennyMoreModel", "gainOf", "(I)I"⟩, "PennyMoreModel", rfl, gw_795, gw_456, gw_796, gw_797, by decide +kernel, by decide +kernel, by decide +kernel, Or.inl rfl⟩, fun _ h => absurd h List.not_mem_nil⟩), List.forall_mem_cons.mpr ⟨(List.forall_mem_cons.mpr ⟨⟨(⟨"PennyMoreModel", "mayAway", "(I)Z"⟩, prog_14_method_35_code, 2, some (Jvm.ClassFile.FieldType.boolean), 12), ⟨"PennyMoreModel", "mayAway", "(I)Z"⟩, "PennyMoreModel", rfl, gw_798, gw_456, gw_799, gw_800, by decide +kernel, by decide +kernel, by decide +kernel, Or.inl rfl⟩, fun _ h => absurd h List.not_mem_nil⟩), fun _ h => absurd h List.not_mem_nil⟩⟩⟩⟩⟩⟩⟩⟩⟩⟩⟩⟩⟩⟩⟩⟩⟩⟩⟩⟩⟩⟩⟩⟩⟩
theorem mm_VT_4_ok : ∀ e ∈ mm_VT_4, mm_okV e := List.forall_mem_cons.mpr ⟨(List.forall_mem_cons.mpr ⟨⟨(⟨"PennyMoreModel", "asBuyer", "(I)I"⟩, prog_14_method_37_code, 2, some (Jvm.ClassFile.FieldType.int), 12), ⟨"PennyMoreModel", "asBuyer", "(I)I"⟩, "PennyMoreModel", rfl, gw_801, gw_456, gw_802, gw_803, by decide +kernel, by decide +kernel, by decide +kernel, Or.inl rfl⟩, fun _ h => absurd h List.not_mem_nil⟩), List.forall_mem_cons.mpr ⟨(List.forall_mem_cons.mpr ⟨⟨(⟨"PennyMoreModel", "asPlain", "(I)I"⟩, prog_14_method_40_code, 2, some (Jvm.ClassFile.FieldType.int), 12), ⟨"PennyMoreModel", "asPlain", "(I)I"⟩, "PennyMoreModel", rfl, gw_804, gw_456, gw_805, gw_806, by decide +kernel, by decide +kernel, by decide +kernel, Or.inl rfl⟩, fun _ h => absurd h List.not_mem_nil⟩), List.forall_mem_cons.mpr ⟨(List.forall_mem_cons.mpr ⟨⟨(⟨"PennyMoreModel", "asWaiting", "(I)I"⟩, prog_14_method_38_code, 2, some (Jvm.ClassFile.FieldType.int), 12), ⟨"PennyMoreModel", "asWaiting", "(I)I"⟩, "PennyMoreModel", rfl, gw_807, gw_456, gw_808, gw_809, by decide +kernel, by decide +kernel, by decide +kernel, Or.inl rfl⟩, fun _ h => absurd h List.not_mem_nil⟩), List.forall_mem_cons.mpr ⟨(List.forall_mem_cons.mpr ⟨⟨(⟨"PennyMoreModel", "asFalling", "(I)I"⟩, prog_14_method_39_code, 3, some (Jvm.ClassFile.FieldType.int), 12), ⟨"PennyMoreModel", "asFalling", "(I)I"⟩, "PennyMoreModel", rfl, gw_810, gw_456, gw_811, gw_812, by decide +kernel, by decide +kernel, by decide +kernel, Or.inl rfl⟩, fun _ h => absurd h List.not_mem_nil⟩), List.forall_mem_cons.mpr ⟨(List.forall_mem_cons.mpr ⟨⟨(⟨"PennyMoreModel", "wouldBe", "(I)I"⟩, prog_14_method_41_code, 4, some (Jvm.ClassFile.FieldType.int), 12), ⟨"PennyMoreModel", "wouldBe", "(I)I"⟩, "PennyMoreModel", rfl, gw_813, gw_456, gw_814, gw_815, by decide +kernel, by decide +kernel, by decide +kernel, Or.inl rfl⟩, fun _ h => absurd h List.not_mem_nil⟩), List.forall_mem_cons.mpr ⟨(List.forall_mem_cons.mpr ⟨⟨(⟨"PennyMoreModel", "comes", "()Z"⟩, prog_14_method_43_code, 1, some (Jvm.ClassFile.FieldType.boolean), 12), ⟨"PennyMoreModel", "comes", "()Z"⟩, "PennyMoreModel", rfl, gw_816, gw_456, gw_817, gw_818, by decide +kernel, by decide +kernel, by decide +kernel, Or.inl rfl⟩, fun _ h => absurd h List.not_mem_nil⟩), List.forall_mem_cons.mpr ⟨(List.forall_mem_cons.mpr ⟨⟨(⟨"PennyMoreModel", "does", "(I)V"⟩, prog_14_method_44_code, 9, none, 12), ⟨"PennyMoreModel", "does", "(I)V"⟩, "PennyMoreModel", rfl, gw_819, gw_456, gw_820, gw_821, by decide +kernel, by decide +kernel, by decide +kernel, Or.inl rfl⟩, fun _ h => absurd h List.not_mem_nil⟩), List.forall_mem_cons.mpr ⟨(List.forall_mem_cons.mpr ⟨⟨(⟨"PennyMoreModel", "keeps", "()V"⟩, prog_14_method_46_code, 2, none, 12), ⟨"PennyMoreModel", "keeps", "()V"⟩, "PennyMoreModel", rfl, gw_822, gw_456, gw_823, gw_824, by decide +kernel, by decide +kernel, by decide +kernel, Or.inl rfl⟩, fun _ h => absurd h List.not_mem_nil⟩), List.forall_mem_cons.mpr ⟨(List.forall_mem_cons.mpr ⟨⟨(⟨"PennyMoreModel", "toTheEnd", "()V"⟩, prog_14_method_48_code, 1, none, 12), ⟨"PennyMoreModel", "toTheEnd", "()V"⟩, "PennyMoreModel", rfl, gw_825, gw_456, gw_826, gw_827, by decide +kernel, by decide +kernel, by decide +kernel, Or.inl rfl⟩, fun _ h => absurd h List.not_mem_nil⟩), List.forall_mem_cons.mpr ⟨(List.forall_mem_cons.mpr ⟨⟨(⟨"PennyMoreModel", "lays", "()V"⟩, prog_14_method_47_code, 2, none, 12), ⟨"PennyMoreModel", "lays", "()V"⟩, "PennyMoreModel", rfl, gw_828, gw_456, gw_829, gw_830, by decide +kernel, by decide +kernel, by decide +kernel, Or.inl rfl⟩, fun _ h => absurd h List.not_mem_nil⟩), List.forall_mem_cons.mpr ⟨(List.forall_mem_cons.mpr ⟨⟨(⟨"PennyMoreModel", "allGained", "()I"⟩, prog_14_method_49_code, 3, some (Jvm.ClassFile.FieldType.int), 12), ⟨"PennyMoreModel", "allGained", "()I"⟩, "PennyMoreModel", rfl, gw_831, gw_456, gw_832, gw_833, by decide +kernel, by decide +kernel, by decide +kernel, Or.inl rfl⟩, fun _ h => absurd h List.not_mem_nil⟩), List.forall_mem_cons.mpr ⟨(List.forall_mem_cons.mpr ⟨⟨(⟨"PennyMoreModel", "stands", "(I)V"⟩, prog_14_method_53_code, 8, none, 12), ⟨"PennyMoreModel", "stands", "(I)V"⟩, "PennyMoreModel", rfl, gw_834, gw_456, gw_835, gw_836, by decide +kernel, by decide +kernel, by decide +kernel, Or.inl rfl⟩, fun _ h => absurd h List.not_mem_nil⟩), List.forall_mem_cons.mpr ⟨(List.forall_mem_cons.mpr ⟨⟨(⟨"PennyMoreModel", "othersGain", "(IZ)I"⟩, prog_14_method_60_code, 5, some (Jvm.ClassFile.FieldType.int), 12), ⟨"PennyMoreModel", "othersGain", "(IZ)I"⟩, "PennyMoreModel", rfl, gw_837, gw_456, gw_838, gw_839, by decide +kernel, by decide +kernel, by decide +kernel, Or.inl rfl⟩, fun _ h => absurd h List.not_mem_nil⟩), List.forall_mem_cons.mpr ⟨(List.forall_mem_cons.mpr ⟨⟨(⟨"PennyMoreModel", "keepsAt", "(I)V"⟩, prog_14_method_63_code, 3, none, 12), ⟨"PennyMoreModel", "keepsAt", "(I)V"⟩, "PennyMoreModel", rfl, gw_840, gw_456, gw_841, gw_842, by decide +kernel, by decide +kernel, by decide +kernel, Or.inl rfl⟩, fun _ h => absurd h List.not_mem_nil⟩), List.forall_mem_cons.mpr ⟨(List.forall_mem_cons.mpr ⟨⟨(⟨"PennyMoreModel", "slipsOn", "(IIJ)V"⟩, prog_14_method_65_code, 8, none, 12), ⟨"PennyMoreModel", "slipsOn", "(IIJ)V"⟩, "PennyMoreModel", rfl, gw_843, gw_456, gw_844, gw_845, by decide +kernel, by decide +kernel, by decide +kernel, Or.inl rfl⟩, fun _ h => absurd h List.not_mem_nil⟩), List.forall_mem_cons.mpr ⟨(List.forall_mem_cons.mpr ⟨⟨(⟨"PennyMoreModel", "laysAt", "(I)V"⟩, prog_14_method_64_code, 3, none, 12), ⟨"PennyMoreModel", "laysAt", "(I)V"⟩, "PennyMoreModel", rfl, gw_846, gw_456, gw_847, gw_848, by decide +kernel, by decide +kernel, by decide +kernel, Or.inl rfl⟩, fun _ h => absurd h List.not_mem_nil⟩), List.forall_mem_cons.mpr ⟨(List.forall_mem_cons.mpr ⟨⟨(⟨"PennyMoreModel", "isTape", "(I)Z"⟩, prog_14_method_69_code, 2, some (Jvm.ClassFile.FieldType.boolean), 12), ⟨"PennyMoreModel", "isTape", "(I)Z"⟩, "PennyMoreModel", rfl, gw_849, gw_456, gw_850, gw_851, by decide +kernel, by decide +kernel, by decide +kernel, Or.inl rfl⟩, fun _ h => absurd h List.not_mem_nil⟩), List.forall_mem_cons.mpr ⟨(List.forall_mem_cons.mpr ⟨⟨(⟨"PennyMoreModel", "runs", "(I)V"⟩, prog_14_method_73_code, 2, none, 12), ⟨"PennyMoreModel", "runs", "(I)V"⟩, "PennyMoreModel", rfl, gw_852, gw_456, gw_853, gw_854, by decide +kernel, by decide +kernel, by decide +kernel, Or.inl rfl⟩, fun _ h => absurd h List.not_mem_nil⟩), List.forall_mem_cons.mpr ⟨(List.forall_mem_cons.mpr ⟨⟨(⟨"PennyMoreModel", "bids", "(II)I"⟩, prog_14_method_75_code, 3, some (Jvm.ClassFile.FieldType.int), 12), ⟨"PennyMoreModel", "bids", "(II)I"⟩, "PennyMoreModel", rfl, gw_855, gw_456, gw_856, gw_857, by decide +kernel, by decide +kernel, by decide +kernel, Or.inl rfl⟩, fun _ h => absurd h List.not_mem_nil⟩), List.forall_mem_cons.mpr ⟨(List.forall_mem_cons.mpr ⟨⟨(⟨"PennyMoreModel", "waitsIn", "(II)I"⟩, prog_14_method_76_code, 4, some (Jvm.ClassFile.FieldType.int), 12), ⟨"PennyMoreModel", "waitsIn", "(II)I"⟩, "PennyMoreModel", rfl, gw_858, gw_456, gw_859, gw_860, by decide +kernel, by decide +kernel, by decide +kernel, Or.inl rfl⟩, fun _ h => absurd h List.not_mem_nil⟩), List.forall_mem_cons.mpr ⟨(List.forall_mem_cons.mpr ⟨⟨(⟨"PennyMoreModel", "tellsIn", "(II)I"⟩, prog_14_method_77_code, 4, some (Jvm.ClassFile.FieldType.int), 12), ⟨"PennyMoreModel", "tellsIn", "(II)I"⟩, "PennyMoreModel", rfl, gw_861, gw_456, gw_862, gw_863, by decide +kernel, by decide +kernel, by decide +kernel, Or.inl rfl⟩, fun _ h => absurd h List.not_mem_nil⟩), List.forall_mem_cons.mpr ⟨(List.forall_mem_cons.mpr ⟨⟨(⟨"java/lang/String", "coder", "()B"⟩, prog_17_method_152_code, 1, some (Jvm.ClassFile.FieldType.byte), 13), ⟨"java/lang/String", "coder", "()B"⟩, "java/lang/String", rfl, gw_864, gw_477, gw_865, gw_866, by decide +kernel, by decide +kernel, by decide +kernel, Or.inl rfl⟩, fun _ h => absurd h List.not_mem_nil⟩), List.forall_mem_cons.mpr ⟨(List.forall_mem_cons.mpr ⟨⟨(⟨"java/lang/String", "isLatin1", "()Z"⟩, prog_17_method_154_code, 1, some (Jvm.ClassFile.FieldType.boolean), 13), ⟨"java/lang/String", "isLatin1", "()Z"⟩, "java/lang/String", rfl, gw_867, gw_477, gw_868, gw_869, by decide +kernel, by decide +kernel, by decide +kernel, Or.inl rfl⟩, fun _ h => absurd h List.not_mem_nil⟩), List.forall_mem_cons.mpr ⟨(List.forall_mem_cons.mpr ⟨⟨(⟨"java/lang/String", "length", "()I"⟩, prog_17_method_54_code, 1, some (Jvm.ClassFile.FieldType.int), 13), ⟨"java/lang/String", "length", "()I"⟩, "java/lang/String", rfl, gw_870, gw_477, gw_580, gw_581, by decide +kernel, by decide +kernel, by decide +kernel, Or.inl rfl⟩, fun _ h => absurd h List.not_mem_nil⟩), List.forall_mem_cons.mpr ⟨(List.forall_mem_cons.mpr ⟨⟨(⟨"java/lang/String", "indexOf", "(II)I"⟩, prog_17_method_80_code, 3, some (Jvm.ClassFile.FieldType.int), 13), ⟨"java/lang/String", "indexOf", "(II)I"⟩, "java/lang/String", rfl, gw_871, gw_477, gw_872, gw_873, by decide +kernel, by decide +kernel, by decide +kernel, Or.inl rfl⟩, fun _ h => absurd h List.not_mem_nil⟩), fun _ h => absurd h List.not_mem_nil⟩⟩⟩⟩⟩⟩⟩⟩⟩⟩⟩⟩⟩⟩⟩⟩⟩⟩⟩⟩⟩⟩⟩⟩⟩
theorem mm_VT_5_ok : ∀ e ∈ mm_VT_5, mm_okV e := List.forall_mem_cons.mpr ⟨(List.forall_mem_cons.mpr ⟨⟨(⟨"PennyMore", "buyer", "(III)I"⟩, prog_1_method_2_code, 5, some (Jvm.ClassFile.FieldType.int), 11), ⟨"PennyMore", "buyer", "(III)I"⟩, "PennyMore", rfl, gw_874, gw_445, gw_875, gw_876, by decide +kernel, by decide +kernel, by decide +kernel, Or.inl rfl⟩, fun _ h => absurd h List.not_mem_nil⟩), List.forall_mem_cons.mpr ⟨(List.forall_mem_cons.mpr ⟨⟨(⟨"PennyMoreModel", "buyer", "(III)I"⟩, prog_14_method_6_code, 5, some (Jvm.ClassFile.FieldType.int), 12), ⟨"PennyMoreModel", "buyer", "(III)I"⟩, "PennyMoreModel", rfl, gw_877, gw_456, gw_878, gw_879, by decide +kernel, by decide +kernel, by decide +kernel, Or.inl rfl⟩, fun _ h => absurd h List.not_mem_nil⟩), List.forall_mem_cons.mpr ⟨(List.forall_mem_cons.mpr ⟨⟨(⟨"PennyMore", "of", "(II)I"⟩, prog_1_method_3_code, 4, some (Jvm.ClassFile.FieldType.int), 11), ⟨"PennyMore", "of", "(II)I"⟩, "PennyMore", rfl, gw_880, gw_445, gw_881, gw_882, by decide +kernel, by decide +kernel, by decide +kernel, Or.inl rfl⟩, fun _ h => absurd h List.not_mem_nil⟩), List.forall_mem_cons.mpr ⟨(List.forall_mem_cons.mpr ⟨⟨(⟨"PennyMoreModel", "of", "(II)I"⟩, prog_14_method_7_code, 3, some (Jvm.ClassFile.FieldType.int), 12), ⟨"PennyMoreModel", "of", "(II)I"⟩, "PennyMoreModel", rfl, gw_883, gw_456, gw_884, gw_885, by decide +kernel, by decide +kernel, by decide +kernel, Or.inl rfl⟩, fun _ h => absurd h List.not_mem_nil⟩), List.forall_mem_cons.mpr ⟨(List.forall_mem_cons.mpr ⟨⟨(⟨"PennyMore", "gained", "(I)I"⟩, prog_1_method_4_code, 2, some (Jvm.ClassFile.FieldType.int), 11), ⟨"PennyMore", "gained", "(I)I"⟩, "PennyMore", rfl, gw_886, gw_445, gw_887, gw_888, by decide +kernel, by decide +kernel, by decide +kernel, Or.inl rfl⟩, fun _ h => absurd h List.not_mem_nil⟩), List.forall_mem_cons.mpr ⟨(List.forall_mem_cons.mpr ⟨⟨(⟨"PennyMoreModel", "gained", "(I)I"⟩, prog_14_method_8_code, 2, some (Jvm.ClassFile.FieldType.int), 12), ⟨"PennyMoreModel", "gained", "(I)I"⟩, "PennyMoreModel", rfl, gw_889, gw_456, gw_890, gw_891, by decide +kernel, by decide +kernel, by decide +kernel, Or.inl rfl⟩, fun _ h => absurd h List.not_mem_nil⟩), List.forall_mem_cons.mpr ⟨(List.forall_mem_cons.mpr ⟨⟨(⟨"PennyMore", "friend", "(II)I"⟩, prog_1_method_5_code, 5, some (Jvm.ClassFile.FieldType.int), 11), ⟨"PennyMore", "friend", "(II)I"⟩, "PennyMore", rfl, gw_892, gw_445, gw_893, gw_894, by decide +kernel, by decide +kernel, by decide +kernel, Or.inl rfl⟩, fun _ h => absurd h List.not_mem_nil⟩), List.forall_mem_cons.mpr ⟨(List.forall_mem_cons.mpr ⟨⟨(⟨"PennyMoreModel", "friend", "(II)I"⟩, prog_14_method_9_code, 4, some (Jvm.ClassFile.FieldType.int), 12), ⟨"PennyMoreModel", "friend", "(II)I"⟩, "PennyMoreModel", rfl, gw_895, gw_456, gw_896, gw_897, by decide +kernel, by decide +kernel, by decide +kernel, Or.inl rfl⟩, fun _ h => absurd h List.not_mem_nil⟩), List.forall_mem_cons.mpr ⟨(List.forall_mem_cons.mpr ⟨⟨(⟨"PennyMore", "row", "(III)I"⟩, prog_1_method_6_code, 6, some (Jvm.ClassFile.FieldType.int), 11), ⟨"PennyMore", "row", "(III)I"⟩, "PennyMore", rfl, gw_898, gw_445, gw_899, gw_900, by decide +kernel, by decide +kernel, by decide +kernel, Or.inl rfl⟩, fun _ h => absurd h List.not_mem_nil⟩), List.forall_mem_cons.mpr ⟨(List.forall_mem_cons.mpr ⟨⟨(⟨"PennyMoreModel", "row", "(III)I"⟩, prog_14_method_10_code, 5, some (Jvm.ClassFile.FieldType.int), 12), ⟨"PennyMoreModel", "row", "(III)I"⟩, "PennyMoreModel", rfl, gw_901, gw_456, gw_902, gw_903, by decide +kernel, by decide +kernel, by decide +kernel, Or.inl rfl⟩, fun _ h => absurd h List.not_mem_nil⟩), List.forall_mem_cons.mpr ⟨(List.forall_mem_cons.mpr ⟨⟨(⟨"PennyMore", "back", "(I)I"⟩, prog_1_method_7_code, 2, some (Jvm.ClassFile.FieldType.int), 11), ⟨"PennyMore", "back", "(I)I"⟩, "PennyMore", rfl, gw_904, gw_445, gw_905, gw_906, by decide +kernel, by decide +kernel, by decide +kernel, Or.inl rfl⟩, fun _ h => absurd h List.not_mem_nil⟩), List.forall_mem_cons.mpr ⟨(List.forall_mem_cons.mpr ⟨⟨(⟨"PennyMoreModel", "back", "(I)I"⟩, prog_14_method_11_code, 2, some (Jvm.ClassFile.FieldType.int), 12), ⟨"PennyMoreModel", "back", "(I)I"⟩, "PennyMoreModel", rfl, gw_907, gw_456, gw_908, gw_909, by decide +kernel, by decide +kernel, by decide +kernel, Or.inl rfl⟩, fun _ h => absurd h List.not_mem_nil⟩), List.forall_mem_cons.mpr ⟨(List.forall_mem_cons.mpr ⟨⟨(⟨"PennyMore", "set", "(II)I"⟩, prog_1_method_8_code, 4, some (Jvm.ClassFile.FieldType.int), 11), ⟨"PennyMore", "set", "(II)I"⟩, "PennyMore", rfl, gw_910, gw_445, gw_911, gw_912, by decide +kernel, by decide +kernel, by decide +kernel, Or.inl rfl⟩, fun _ h => absurd h List.not_mem_nil⟩), List.forall_mem_cons.mpr ⟨(List.forall_mem_cons.mpr ⟨⟨(⟨"PennyMoreModel", "set", "(II)I"⟩, prog_14_method_12_code, 4, some (Jvm.ClassFile.FieldType.int), 12), ⟨"PennyMoreModel", "set", "(II)I"⟩, "PennyMoreModel", rfl, gw_913, gw_456, gw_914, gw_915, by decide +kernel, by decide +kernel, by decide +kernel, Or.inl rfl⟩, fun _ h => absurd h List.not_mem_nil⟩), List.forall_mem_cons.mpr ⟨(List.forall_mem_cons.mpr ⟨⟨(⟨"PennyMore", "feed", "(I)I"⟩, prog_1_method_9_code, 2, some (Jvm.ClassFile.FieldType.int), 11), ⟨"PennyMore", "feed", "(I)I"⟩, "PennyMore", rfl, gw_916, gw_445, gw_917, gw_918, by decide +kernel, by decide +kernel, by decide +kernel, Or.inl rfl⟩, fun _ h => absurd h List.not_mem_nil⟩), List.forall_mem_cons.mpr ⟨(List.forall_mem_cons.mpr ⟨⟨(⟨"PennyMoreModel", "feed", "(I)I"⟩, prog_14_method_13_code, 2, some (Jvm.ClassFile.FieldType.int), 12), ⟨"PennyMoreModel", "feed", "(I)I"⟩, "PennyMoreModel", rfl, gw_919, gw_456, gw_920, gw_921, by decide +kernel, by decide +kernel, by decide +kernel, Or.inl rfl⟩, fun _ h => absurd h List.not_mem_nil⟩), List.forall_mem_cons.mpr ⟨(List.forall_mem_cons.mpr ⟨⟨(⟨"PennyMore", "shop", "()I"⟩, prog_1_method_10_code, 4, some (Jvm.ClassFile.FieldType.int), 11), ⟨"PennyMore", "shop", "()I"⟩, "PennyMore", rfl, gw_922, gw_445, gw_923, gw_924, by decide +kernel, by decide +kernel, by decide +kernel, Or.inl rfl⟩, fun _ h => absurd h List.not_mem_nil⟩), List.forall_mem_cons.mpr ⟨(List.forall_mem_cons.mpr ⟨⟨(⟨"PennyMoreModel", "shop", "()I"⟩, prog_14_method_27_code, 3, some (Jvm.ClassFile.FieldType.int), 12), ⟨"PennyMoreModel", "shop", "()I"⟩, "PennyMoreModel", rfl, gw_925, gw_456, gw_926, gw_927, by decide +kernel, by decide +kernel, by decide +kernel, Or.inl rfl⟩, fun _ h => absurd h List.not_mem_nil⟩), List.forall_mem_cons.mpr ⟨(List.forall_mem_cons.mpr ⟨⟨(⟨"PennyMore", "told", "(I)I"⟩, prog_1_method_11_code, 2, some (Jvm.ClassFile.FieldType.int), 11), ⟨"PennyMore", "told", "(I)I"⟩, "PennyMore", rfl, gw_928, gw_445, gw_929, gw_930, by decide +kernel, by decide +kernel, by decide +kernel, Or.inl rfl⟩, fun _ h => absurd h List.not_mem_nil⟩), List.forall_mem_cons.mpr ⟨(List.forall_mem_cons.mpr ⟨⟨(⟨"PennyMoreModel", "told", "(I)I"⟩, prog_14_method_34_code, 2, some (Jvm.ClassFile.FieldType.int), 12), ⟨"PennyMoreModel", "told", "(I)I"⟩, "PennyMoreModel", rfl, gw_931, gw_456, gw_932, gw_933, by decide +kernel, by decide +kernel, by decide +kernel, Or.inl rfl⟩, fun _ h => absurd h List.not_mem_nil⟩), List.forall_mem_cons.mpr ⟨(List.forall_mem_cons.mpr ⟨⟨(⟨"PennyMore", "would", "(I)I"⟩, prog_1_method_12_code, 2, some (Jvm.ClassFile.FieldType.int), 11), ⟨"PennyMore", "would", "(I)I"⟩, "PennyMore", rfl, gw_934, gw_445, gw_935, gw_936, by decide +kernel, by decide +kernel, by decide +kernel, Or.inl rfl⟩, fun _ h => absurd h List.not_mem_nil⟩), List.forall_mem_cons.mpr ⟨(List.forall_mem_cons.mpr ⟨⟨(⟨"PennyMoreModel", "would", "(I)I"⟩, prog_14_method_42_code, 2, some (Jvm.ClassFile.FieldType.int), 12), ⟨"PennyMoreModel", "would", "(I)I"⟩, "PennyMoreModel", rfl, gw_937, gw_456, gw_938, gw_939, by decide +kernel, by decide +kernel, by decide +kernel, Or.inl rfl⟩, fun _ h => absurd h List.not_mem_nil⟩), List.forall_mem_cons.mpr ⟨(List.forall_mem_cons.mpr ⟨⟨(⟨"PennyMore", "go", "()I"⟩, prog_1_method_13_code, 1, some (Jvm.ClassFile.FieldType.int), 11), ⟨"PennyMore", "go", "()I"⟩, "PennyMore", rfl, gw_940, gw_445, gw_941, gw_942, by decide +kernel, by decide +kernel, by decide +kernel, Or.inl rfl⟩, fun _ h => absurd h List.not_mem_nil⟩), List.forall_mem_cons.mpr ⟨(List.forall_mem_cons.mpr ⟨⟨(⟨"PennyMoreModel", "go", "()I"⟩, prog_14_method_45_code, 2, some (Jvm.ClassFile.FieldType.int), 12), ⟨"PennyMoreModel", "go", "()I"⟩, "PennyMoreModel", rfl, gw_943, gw_456, gw_944, gw_945, by decide +kernel, by decide +kernel, by decide +kernel, Or.inl rfl⟩, fun _ h => absurd h List.not_mem_nil⟩), List.forall_mem_cons.mpr ⟨(List.forall_mem_cons.mpr ⟨⟨(⟨"PennyMore", "run", "(I)I"⟩, prog_1_method_14_code, 2, some (Jvm.ClassFile.FieldType.int), 11), ⟨"PennyMore", "run", "(I)I"⟩, "PennyMore", rfl, gw_946, gw_445, gw_947, gw_948, by decide +kernel, by decide +kernel, by decide +kernel, Or.inl rfl⟩, fun _ h => absurd h List.not_mem_nil⟩), fun _ h => absurd h List.not_mem_nil⟩⟩⟩⟩⟩⟩⟩⟩⟩⟩⟩⟩⟩⟩⟩⟩⟩⟩⟩⟩⟩⟩⟩⟩⟩
theorem mm_VT_6_ok : ∀ e ∈ mm_VT_6, mm_okV e := List.forall_mem_cons.mpr ⟨(List.forall_mem_cons.mpr ⟨⟨(⟨"PennyMoreModel", "run", "(I)I"⟩, prog_14_method_50_code, 4, some (Jvm.ClassFile.FieldType.int), 12), ⟨"PennyMoreModel", "run", "(I)I"⟩, "PennyMoreModel", rfl, gw_949, gw_456, gw_950, gw_951, by decide +kernel, by decide +kernel, by decide +kernel, Or.inl rfl⟩, fun _ h => absurd h List.not_mem_nil⟩), List.forall_mem_cons.mpr ⟨(List.forall_mem_cons.mpr ⟨⟨(⟨"PennyMore", "first", "(I)I"⟩, prog_1_method_15_code, 7, some (Jvm.ClassFile.FieldType.int), 11), ⟨"PennyMore", "first", "(I)I"⟩, "PennyMore", rfl, gw_952, gw_445, gw_953, gw_954, by decide +kernel, by decide +kernel, by decide +kernel, Or.inl rfl⟩, fun _ h => absurd h List.not_mem_nil⟩), List.forall_mem_cons.mpr ⟨(List.forall_mem_cons.mpr ⟨⟨(⟨"PennyMoreModel", "first", "(I)I"⟩, prog_14_method_51_code, 7, some (Jvm.ClassFile.FieldType.int), 12), ⟨"PennyMoreModel", "first", "(I)I"⟩, "PennyMoreModel", rfl, gw_955, gw_456, gw_956, gw_957, by decide +kernel, by decide +kernel, by decide +kernel, Or.inl rfl⟩, fun _ h => absurd h List.not_mem_nil⟩), List.forall_mem_cons.mpr ⟨(List.forall_mem_cons.mpr ⟨⟨(⟨"PennyMore", "order", "(II)I"⟩, prog_1_method_16_code, 4, some (Jvm.ClassFile.FieldType.int), 11), ⟨"PennyMore", "order", "(II)I"⟩, "PennyMore", rfl, gw_958, gw_445, gw_959, gw_960, by decide +kernel, by decide +kernel, by decide +kernel, Or.inl rfl⟩, fun _ h => absurd h List.not_mem_nil⟩), List.forall_mem_cons.mpr ⟨(List.forall_mem_cons.mpr ⟨⟨(⟨"PennyMoreModel", "order", "(II)I"⟩, prog_14_method_54_code, 7, some (Jvm.ClassFile.FieldType.int), 12), ⟨"PennyMoreModel", "order", "(II)I"⟩, "PennyMoreModel", rfl, gw_961, gw_456, gw_962, gw_963, by decide +kernel, by decide +kernel, by decide +kernel, Or.inl rfl⟩, fun _ h => absurd h List.not_mem_nil⟩), List.forall_mem_cons.mpr ⟨(List.forall_mem_cons.mpr ⟨⟨(⟨"PennyMore", "letBy", "(I)I"⟩, prog_1_method_17_code, 5, some (Jvm.ClassFile.FieldType.int), 11), ⟨"PennyMore", "letBy", "(I)I"⟩, "PennyMore", rfl, gw_964, gw_445, gw_965, gw_966, by decide +kernel, by decide +kernel, by decide +kernel, Or.inl rfl⟩, fun _ h => absurd h List.not_mem_nil⟩), List.forall_mem_cons.mpr ⟨(List.forall_mem_cons.mpr ⟨⟨(⟨"PennyMoreModel", "letBy", "(I)I"⟩, prog_14_method_55_code, 11, some (Jvm.ClassFile.FieldType.int), 12), ⟨"PennyMoreModel", "letBy", "(I)I"⟩, "PennyMoreModel", rfl, gw_967, gw_456, gw_968, gw_969, by decide +kernel, by decide +kernel, by decide +kernel, Or.inl rfl⟩, fun _ h => absurd h List.not_mem_nil⟩), List.forall_mem_cons.mpr ⟨(List.forall_mem_cons.mpr ⟨⟨(⟨"PennyMore", "lot", "(I)J"⟩, prog_1_method_18_code, 8, some (Jvm.ClassFile.FieldType.long), 11), ⟨"PennyMore", "lot", "(I)J"⟩, "PennyMore", rfl, gw_970, gw_445, gw_971, gw_972, by decide +kernel, by decide +kernel, by decide +kernel, Or.inl rfl⟩, fun _ h => absurd h List.not_mem_nil⟩), List.forall_mem_cons.mpr ⟨(List.forall_mem_cons.mpr ⟨⟨(⟨"PennyMoreModel", "lot", "(I)J"⟩, prog_14_method_57_code, 5, some (Jvm.ClassFile.FieldType.long), 12), ⟨"PennyMoreModel", "lot", "(I)J"⟩, "PennyMoreModel", rfl, gw_973, gw_456, gw_974, gw_975, by decide +kernel, by decide +kernel, by decide +kernel, Or.inl rfl⟩, fun _ h => absurd h List.not_mem_nil⟩), List.forall_mem_cons.mpr ⟨(List.forall_mem_cons.mpr ⟨⟨(⟨"PennyMore", "fee", "()I"⟩, prog_1_method_19_code, 2, some (Jvm.ClassFile.FieldType.int), 11), ⟨"PennyMore", "fee", "()I"⟩, "PennyMore", rfl, gw_976, gw_445, gw_977, gw_978, by decide +kernel, by decide +kernel, by decide +kernel, Or.inl rfl⟩, fun _ h => absurd h List.not_mem_nil⟩), List.forall_mem_cons.mpr ⟨(List.forall_mem_cons.mpr ⟨⟨(⟨"PennyMoreModel", "fee", "()I"⟩, prog_14_method_58_code, 3, some (Jvm.ClassFile.FieldType.int), 12), ⟨"PennyMoreModel", "fee", "()I"⟩, "PennyMoreModel", rfl, gw_979, gw_456, gw_980, gw_981, by decide +kernel, by decide +kernel, by decide +kernel, Or.inl rfl⟩, fun _ h => absurd h List.not_mem_nil⟩), List.forall_mem_cons.mpr ⟨(List.forall_mem_cons.mpr ⟨⟨(⟨"PennyMore", "onePrice", "(I)I"⟩, prog_1_method_20_code, 6, some (Jvm.ClassFile.FieldType.int), 11), ⟨"PennyMore", "onePrice", "(I)I"⟩, "PennyMore", rfl, gw_982, gw_445, gw_983, gw_984, by decide +kernel, by decide +kernel, by decide +kernel, Or.inl rfl⟩, fun _ h => absurd h List.not_mem_nil⟩), List.forall_mem_cons.mpr ⟨(List.forall_mem_cons.mpr ⟨⟨(⟨"PennyMoreModel", "onePrice", "(I)I"⟩, prog_14_method_59_code, 7, some (Jvm.ClassFile.FieldType.int), 12), ⟨"PennyMoreModel", "onePrice", "(I)I"⟩, "PennyMoreModel", rfl, gw_985, gw_456, gw_986, gw_987, by decide +kernel, by decide +kernel, by decide +kernel, Or.inl rfl⟩, fun _ h => absurd h List.not_mem_nil⟩), List.forall_mem_cons.mpr ⟨(List.forall_mem_cons.mpr ⟨⟨(⟨"PennyMore", "aunt", "(I)I"⟩, prog_1_method_21_code, 6, some (Jvm.ClassFile.FieldType.int), 11), ⟨"PennyMore", "aunt", "(I)I"⟩, "PennyMore", rfl, gw_988, gw_445, gw_989, gw_990, by decide +kernel, by decide +kernel, by decide +kernel, Or.inl rfl⟩, fun _ h => absurd h List.not_mem_nil⟩), List.forall_mem_cons.mpr ⟨(List.forall_mem_cons.mpr ⟨⟨(⟨"PennyMoreModel", "aunt", "(I)I"⟩, prog_14_method_61_code, 2, some (Jvm.ClassFile.FieldType.int), 12), ⟨"PennyMoreModel", "aunt", "(I)I"⟩, "PennyMoreModel", rfl, gw_991, gw_456, gw_992, gw_993, by decide +kernel, by decide +kernel, by decide +kernel, Or.inl rfl⟩, fun _ h => absurd h List.not_mem_nil⟩), List.forall_mem_cons.mpr ⟨(List.forall_mem_cons.mpr ⟨⟨(⟨"PennyMore", "slips", "(I)I"⟩, prog_1_method_22_code, 3, some (Jvm.ClassFile.FieldType.int), 11), ⟨"PennyMore", "slips", "(I)I"⟩, "PennyMore", rfl, gw_994, gw_445, gw_995, gw_996, by decide +kernel, by decide +kernel, by decide +kernel, Or.inl rfl⟩, fun _ h => absurd h List.not_mem_nil⟩), List.forall_mem_cons.mpr ⟨(List.forall_mem_cons.mpr ⟨⟨(⟨"PennyMoreModel", "slips", "(I)I"⟩, prog_14_method_62_code, 3, some (Jvm.ClassFile.FieldType.int), 12), ⟨"PennyMoreModel", "slips", "(I)I"⟩, "PennyMoreModel", rfl, gw_997, gw_456, gw_998, gw_999, by decide +kernel, by decide +kernel, by decide +kernel, Or.inl rfl⟩, fun _ h => absurd h List.not_mem_nil⟩), List.forall_mem_cons.mpr ⟨(List.forall_mem_cons.mpr ⟨⟨(⟨"PennyMore", "sure", "(II)J"⟩, prog_1_method_23_code, 12, some (Jvm.ClassFile.FieldType.long), 11), ⟨"PennyMore", "sure", "(II)J"⟩, "PennyMore", rfl, gw_1000, gw_445, gw_1001, gw_1002, by decide +kernel, by decide +kernel, by decide +kernel, Or.inl rfl⟩, fun _ h => absurd h List.not_mem_nil⟩), List.forall_mem_cons.mpr ⟨(List.forall_mem_cons.mpr ⟨⟨(⟨"PennyMoreModel", "sure", "(II)J"⟩, prog_14_method_66_code, 3, some (Jvm.ClassFile.FieldType.long), 12), ⟨"PennyMoreModel", "sure", "(II)J"⟩, "PennyMoreModel", rfl, gw_1003, gw_456, gw_1004, gw_1005, by decide +kernel, by decide +kernel, by decide +kernel, Or.inl rfl⟩, fun _ h => absurd h List.not_mem_nil⟩), List.forall_mem_cons.mpr ⟨(List.forall_mem_cons.mpr ⟨⟨(⟨"PennyMore", "film", "(I)I"⟩, prog_1_method_24_code, 2, some (Jvm.ClassFile.FieldType.int), 11), ⟨"PennyMore", "film", "(I)I"⟩, "PennyMore", rfl, gw_1006, gw_445, gw_1007, gw_1008, by decide +kernel, by decide +kernel, by decide +kernel, Or.inl rfl⟩, fun _ h => absurd h List.not_mem_nil⟩), List.forall_mem_cons.mpr ⟨(List.forall_mem_cons.mpr ⟨⟨(⟨"PennyMoreModel", "film", "(I)I"⟩, prog_14_method_67_code, 2, some (Jvm.ClassFile.FieldType.int), 12), ⟨"PennyMoreModel", "film", "(I)I"⟩, "PennyMoreModel", rfl, gw_1009, gw_456, gw_1010, gw_1011, by decide +kernel, by decide +kernel, by decide +kernel, Or.inl rfl⟩, fun _ h => absurd h List.not_mem_nil⟩), List.forall_mem_cons.mpr ⟨(List.forall_mem_cons.mpr ⟨⟨(⟨"PennyMore", "off", "()I"⟩, prog_1_method_25_code, 2, some (Jvm.ClassFile.FieldType.int), 11), ⟨"PennyMore", "off", "()I"⟩, "PennyMore", rfl, gw_1012, gw_445, gw_1013, gw_1014, by decide +kernel, by decide +kernel, by decide +kernel, Or.inl rfl⟩, fun _ h => absurd h List.not_mem_nil⟩), List.forall_mem_cons.mpr ⟨(List.forall_mem_cons.mpr ⟨⟨(⟨"PennyMoreModel", "off", "()I"⟩, prog_14_method_68_code, 4, some (Jvm.ClassFile.FieldType.int), 12), ⟨"PennyMoreModel", "off", "()I"⟩, "PennyMoreModel", rfl, gw_1015, gw_456, gw_1016, gw_1017, by decide +kernel, by decide +kernel, by decide +kernel, Or.inl rfl⟩, fun _ h => absurd h List.not_mem_nil⟩), List.forall_mem_cons.mpr ⟨(List.forall_mem_cons.mpr ⟨⟨(⟨"PennyMore", "judge", "(II)I"⟩, prog_1_method_26_code, 5, some (Jvm.ClassFile.FieldType.int), 11), ⟨"PennyMore", "judge", "(II)I"⟩, "PennyMore", rfl, gw_1018, gw_445, gw_1019, gw_1020, by decide +kernel, by decide +kernel, by decide +kernel, Or.inl rfl⟩, fun _ h => absurd h List.not_mem_nil⟩), List.forall_mem_cons.mpr ⟨(List.forall_mem_cons.mpr ⟨⟨(⟨"PennyMoreModel", "judge", "(II)I"⟩, prog_14_method_70_code, 5, some (Jvm.ClassFile.FieldType.int), 12), ⟨"PennyMoreModel", "judge", "(II)I"⟩, "PennyMoreModel", rfl, gw_1021, gw_456, gw_1022, gw_1023, by decide +kernel, by decide +kernel, by decide +kernel, Or.inl rfl⟩, fun _ h => absurd h List.not_mem_nil⟩), fun _ h => absurd h List.not_mem_nil⟩⟩⟩⟩⟩⟩⟩⟩⟩⟩⟩⟩⟩⟩⟩⟩⟩⟩⟩⟩⟩⟩⟩⟩⟩
theorem mm_VT_7_ok : ∀ e ∈ mm_VT_7, mm_okV e := List.forall_mem_cons.mpr ⟨(List.forall_mem_cons.mpr ⟨⟨(⟨"PennyMore", "image", "()I"⟩, prog_1_method_27_code, 1, some (Jvm.ClassFile.FieldType.int), 11), ⟨"PennyMore", "image", "()I"⟩, "PennyMore", rfl, gw_1024, gw_445, gw_1025, gw_1026, by decide +kernel, by decide +kernel, by decide +kernel, Or.inl rfl⟩, fun _ h => absurd h List.not_mem_nil⟩), List.forall_mem_cons.mpr ⟨(List.forall_mem_cons.mpr ⟨⟨(⟨"PennyMoreModel", "image", "()I"⟩, prog_14_method_71_code, 2, some (Jvm.ClassFile.FieldType.int), 12), ⟨"PennyMoreModel", "image", "()I"⟩, "PennyMoreModel", rfl, gw_1027, gw_456, gw_1028, gw_1029, by decide +kernel, by decide +kernel, by decide +kernel, Or.inl rfl⟩, fun _ h => absurd h List.not_mem_nil⟩), List.forall_mem_cons.mpr ⟨(List.forall_mem_cons.mpr ⟨⟨(⟨"PennyMore", "undo", "()I"⟩, prog_1_method_28_code, 1, some (Jvm.ClassFile.FieldType.int), 11), ⟨"PennyMore", "undo", "()I"⟩, "PennyMore", rfl, gw_1030, gw_445, gw_1031, gw_1032, by decide +kernel, by decide +kernel, by decide +kernel, Or.inl rfl⟩, fun _ h => absurd h List.not_mem_nil⟩), List.forall_mem_cons.mpr ⟨(List.forall_mem_cons.mpr ⟨⟨(⟨"PennyMoreModel", "undo", "()I"⟩, prog_14_method_72_code, 2, some (Jvm.ClassFile.FieldType.int), 12), ⟨"PennyMoreModel", "undo", "()I"⟩, "PennyMoreModel", rfl, gw_1033, gw_456, gw_1034, gw_1035, by decide +kernel, by decide +kernel, by decide +kernel, Or.inl rfl⟩, fun _ h => absurd h List.not_mem_nil⟩), List.forall_mem_cons.mpr ⟨(List.forall_mem_cons.mpr ⟨⟨(⟨"PennyMore", "act", "(III)I"⟩, prog_1_method_29_code, 4, some (Jvm.ClassFile.FieldType.int), 11), ⟨"PennyMore", "act", "(III)I"⟩, "PennyMore", rfl, gw_1036, gw_445, gw_1037, gw_1038, by decide +kernel, by decide +kernel, by decide +kernel, Or.inl rfl⟩, fun _ h => absurd h List.not_mem_nil⟩), List.forall_mem_cons.mpr ⟨(List.forall_mem_cons.mpr ⟨⟨(⟨"PennyMoreModel", "act", "(III)I"⟩, prog_14_method_78_code, 4, some (Jvm.ClassFile.FieldType.int), 12), ⟨"PennyMoreModel", "act", "(III)I"⟩, "PennyMoreModel", rfl, gw_1039, gw_456, gw_1040, gw_1041, by decide +kernel, by decide +kernel, by decide +kernel, Or.inl rfl⟩, fun _ h => absurd h List.not_mem_nil⟩), List.forall_mem_cons.mpr ⟨(List.forall_mem_cons.mpr ⟨⟨(⟨"PennyMore", "trace", "(I)I"⟩, prog_1_method_30_code, 2, some (Jvm.ClassFile.FieldType.int), 11), ⟨"PennyMore", "trace", "(I)I"⟩, "PennyMore", rfl, gw_1042, gw_445, gw_1043, gw_1044, by decide +kernel, by decide +kernel, by decide +kernel, Or.inl rfl⟩, fun _ h => absurd h List.not_mem_nil⟩), List.forall_mem_cons.mpr ⟨(List.forall_mem_cons.mpr ⟨⟨(⟨"PennyMoreModel", "trace", "(I)I"⟩, prog_14_method_79_code, 2, some (Jvm.ClassFile.FieldType.int), 12), ⟨"PennyMoreModel", "trace", "(I)I"⟩, "PennyMoreModel", rfl, gw_1045, gw_456, gw_1046, gw_1047, by decide +kernel, by decide +kernel, by decide +kernel, Or.inl rfl⟩, fun _ h => absurd h List.not_mem_nil⟩), List.forall_mem_cons.mpr ⟨(List.forall_mem_cons.mpr ⟨⟨(⟨"PennyMore", "taken", "(II)I"⟩, prog_1_method_31_code, 4, some (Jvm.ClassFile.FieldType.int), 11), ⟨"PennyMore", "taken", "(II)I"⟩, "PennyMore", rfl, gw_1048, gw_445, gw_1049, gw_1050, by decide +kernel, by decide +kernel, by decide +kernel, Or.inl rfl⟩, fun _ h => absurd h List.not_mem_nil⟩), List.forall_mem_cons.mpr ⟨(List.forall_mem_cons.mpr ⟨⟨(⟨"PennyMoreModel", "taken", "(II)I"⟩, prog_14_method_80_code, 4, some (Jvm.ClassFile.FieldType.int), 12), ⟨"PennyMoreModel", "taken", "(II)I"⟩, "PennyMoreModel", rfl, gw_1051, gw_456, gw_1052, gw_1053, by decide +kernel, by decide +kernel, by decide +kernel, Or.inl rfl⟩, fun _ h => absurd h List.not_mem_nil⟩), List.forall_mem_cons.mpr ⟨(List.forall_mem_cons.mpr ⟨⟨(⟨"PennyMore", "count", "(I)I"⟩, prog_1_method_32_code, 2, some (Jvm.ClassFile.FieldType.int), 11), ⟨"PennyMore", "count", "(I)I"⟩, "PennyMore", rfl, gw_1054, gw_445, gw_1055, gw_1056, by decide +kernel, by decide +kernel, by decide +kernel, Or.inl rfl⟩, fun _ h => absurd h List.not_mem_nil⟩), List.forall_mem_cons.mpr ⟨(List.forall_mem_cons.mpr ⟨⟨(⟨"PennyMoreModel", "count", "(I)I"⟩, prog_14_method_81_code, 2, some (Jvm.ClassFile.FieldType.int), 12), ⟨"PennyMoreModel", "count", "(I)I"⟩, "PennyMoreModel", rfl, gw_1057, gw_456, gw_1058, gw_1059, by decide +kernel, by decide +kernel, by decide +kernel, Or.inl rfl⟩, fun _ h => absurd h List.not_mem_nil⟩), List.forall_mem_cons.mpr ⟨(List.forall_mem_cons.mpr ⟨⟨(⟨"PennyMore", "tape", "(III)I"⟩, prog_1_method_33_code, 4, some (Jvm.ClassFile.FieldType.int), 11), ⟨"PennyMore", "tape", "(III)I"⟩, "PennyMore", rfl, gw_1060, gw_445, gw_1061, gw_1062, by decide +kernel, by decide +kernel, by decide +kernel, Or.inl rfl⟩, fun _ h => absurd h List.not_mem_nil⟩), List.forall_mem_cons.mpr ⟨(List.forall_mem_cons.mpr ⟨⟨(⟨"PennyMoreModel", "tape", "(III)I"⟩, prog_14_method_82_code, 5, some (Jvm.ClassFile.FieldType.int), 12), ⟨"PennyMoreModel", "tape", "(III)I"⟩, "PennyMoreModel", rfl, gw_1063, gw_456, gw_1064, gw_1065, by decide +kernel, by decide +kernel, by decide +kernel, Or.inl rfl⟩, fun _ h => absurd h List.not_mem_nil⟩), List.forall_mem_cons.mpr ⟨(List.forall_mem_cons.mpr ⟨⟨(⟨"PennyMore", "item", "(IIJ)I"⟩, prog_1_method_34_code, 6, some (Jvm.ClassFile.FieldType.int), 11), ⟨"PennyMore", "item", "(IIJ)I"⟩, "PennyMore", rfl, gw_1066, gw_445, gw_1067, gw_1068, by decide +kernel, by decide +kernel, by decide +kernel, Or.inl rfl⟩, fun _ h => absurd h List.not_mem_nil⟩), List.forall_mem_cons.mpr ⟨(List.forall_mem_cons.mpr ⟨⟨(⟨"PennyMoreModel", "item", "(IIJ)I"⟩, prog_14_method_84_code, 5, some (Jvm.ClassFile.FieldType.int), 12), ⟨"PennyMoreModel", "item", "(IIJ)I"⟩, "PennyMoreModel", rfl, gw_1069, gw_456, gw_1070, gw_1071, by decide +kernel, by decide +kernel, by decide +kernel, Or.inl rfl⟩, fun _ h => absurd h List.not_mem_nil⟩), List.forall_mem_cons.mpr ⟨(List.forall_mem_cons.mpr ⟨⟨(⟨"PennyMore", "read", "(II)J"⟩, prog_1_method_35_code, 3, some (Jvm.ClassFile.FieldType.long), 11), ⟨"PennyMore", "read", "(II)J"⟩, "PennyMore", rfl, gw_1072, gw_445, gw_1073, gw_1074, by decide +kernel, by decide +kernel, by decide +kernel, Or.inl rfl⟩, fun _ h => absurd h List.not_mem_nil⟩), List.forall_mem_cons.mpr ⟨(List.forall_mem_cons.mpr ⟨⟨(⟨"PennyMoreModel", "read", "(II)J"⟩, prog_14_method_85_code, 3, some (Jvm.ClassFile.FieldType.long), 12), ⟨"PennyMoreModel", "read", "(II)J"⟩, "PennyMoreModel", rfl, gw_1075, gw_456, gw_1076, gw_1077, by decide +kernel, by decide +kernel, by decide +kernel, Or.inl rfl⟩, fun _ h => absurd h List.not_mem_nil⟩), List.forall_mem_cons.mpr ⟨(List.forall_mem_cons.mpr ⟨⟨(⟨"PennyMore", "shift", "(IIIII)I"⟩, prog_1_method_36_code, 8, some (Jvm.ClassFile.FieldType.int), 11), ⟨"PennyMore", "shift", "(IIIII)I"⟩, "PennyMore", rfl, gw_1078, gw_445, gw_1079, gw_1080, by decide +kernel, by decide +kernel, by decide +kernel, Or.inl rfl⟩, fun _ h => absurd h List.not_mem_nil⟩), List.forall_mem_cons.mpr ⟨(List.forall_mem_cons.mpr ⟨⟨(⟨"PennyMoreModel", "shift", "(IIIII)I"⟩, prog_14_method_86_code, 7, some (Jvm.ClassFile.FieldType.int), 12), ⟨"PennyMoreModel", "shift", "(IIIII)I"⟩, "PennyMoreModel", rfl, gw_1081, gw_456, gw_1082, gw_1083, by decide +kernel, by decide +kernel, by decide +kernel, Or.inl rfl⟩, fun _ h => absurd h List.not_mem_nil⟩), fun _ h => absurd h List.not_mem_nil⟩⟩⟩⟩⟩⟩⟩⟩⟩⟩⟩⟩⟩⟩⟩⟩⟩⟩⟩⟩
theorem mm_VT_ok : ∀ e ∈ mm_VT, mm_okV e := List.forall_mem_append.mpr ⟨mm_VT_0_ok, List.forall_mem_append.mpr ⟨mm_VT_1_ok, List.forall_mem_append.mpr ⟨mm_VT_2_ok, List.forall_mem_append.mpr ⟨mm_VT_3_ok, List.forall_mem_append.mpr ⟨mm_VT_4_ok, List.forall_mem_append.mpr ⟨mm_VT_5_ok, List.forall_mem_append.mpr ⟨mm_VT_6_ok, mm_VT_7_ok⟩⟩⟩⟩⟩⟩⟩
theorem mm_SP_0_ok : ∀ e ∈ mm_SP_0, mm_okP e := List.forall_mem_cons.mpr ⟨⟨(⟨"PennyMore$Buyer", "<init>", "(IIII)V"⟩, prog_2_method_1_code, 5, none, 0), ⟨"PennyMore$Buyer", "<init>", "(IIII)V"⟩, rfl, gw_1085, gw_422, by decide +kernel, Or.inl ⟨rfl, rfl, rfl, rfl, gw_1084⟩⟩, List.forall_mem_cons.mpr ⟨⟨(⟨"PennyMore$Buyer", "does", "(LPennyMore$Day;)I"⟩, prog_2_method_3_code, 2, some (Jvm.ClassFile.FieldType.int), 0), ⟨"PennyMore$Buyer", "does", "(LPennyMore$Day;)I"⟩, rfl, gw_535, gw_422, by decide +kernel, Or.inr (Or.inl ⟨rfl, by decide +kernel, rfl, gw_1086, gw_534, gw_1087, Or.inl rfl⟩)⟩, List.forall_mem_cons.mpr ⟨⟨(⟨"PennyMore$Buyer", "tells", "(I[I)I"⟩, prog_2_method_6_code, 3, some (Jvm.ClassFile.FieldType.int), 0), ⟨"PennyMore$Buyer", "tells", "(I[I)I"⟩, rfl, gw_705, gw_422, by decide +kernel, Or.inr (Or.inl ⟨rfl, by decide +kernel, rfl, gw_1088, gw_704, gw_1087, Or.inl rfl⟩)⟩, List.forall_mem_cons.mpr ⟨⟨(⟨"PennyMore$Waiting", "<init>", "(IIII)V"⟩, prog_12_method_1_code, 5, none, 10), ⟨"PennyMore$Waiting", "<init>", "(IIII)V"⟩, rfl, gw_1090, gw_489, by decide +kernel, Or.inl ⟨rfl, rfl, rfl, rfl, gw_1089⟩⟩, List.forall_mem_cons.mpr ⟨⟨(⟨"PennyMore$Waiting", "does", "(LPennyMore$Day;)I"⟩, prog_12_method_2_code, 2, some (Jvm.ClassFile.FieldType.int), 10), ⟨"PennyMore$Waiting", "does", "(LPennyMore$Day;)I"⟩, rfl, gw_537, gw_489, by decide +kernel, Or.inr (Or.inl ⟨rfl, by decide +kernel, rfl, gw_1091, gw_1092, gw_1093, Or.inl rfl⟩)⟩, List.forall_mem_cons.mpr ⟨⟨(⟨"PennyMore$Buyer", "tells", "(I[I)I"⟩, prog_2_method_6_code, 3, some (Jvm.ClassFile.FieldType.int), 0), ⟨"PennyMore$Waiting", "tells", "(I[I)I"⟩, rfl, gw_705, gw_422, by decide +kernel, Or.inr (Or.inl ⟨rfl, by decide +kernel, rfl, gw_1095, gw_1096, gw_1093, Or.inr gw_1094⟩)⟩, List.forall_mem_cons.mpr ⟨⟨(⟨"PennyMore$Buyer", "<init>", "(IIII)V"⟩, prog_2_method_1_code, 5, none, 0), ⟨"PennyMore$Buyer", "<init>", "(IIII)V"⟩, rfl, gw_1085, gw_422, by decide +kernel, Or.inl ⟨rfl, rfl, rfl, rfl, gw_1097⟩⟩, List.forall_mem_cons.mpr ⟨⟨(⟨"PennyMore$Buyer", "waits", "(I[I)I"⟩, prog_2_method_5_code, 3, some (Jvm.ClassFile.FieldType.int), 0), ⟨"PennyMore$Buyer", "waits", "(I[I)I"⟩, rfl, gw_503, gw_422, by decide +kernel, Or.inr (Or.inl ⟨rfl, by decide +kernel, rfl, gw_1098, gw_502, gw_1099, Or.inl rfl⟩)⟩, List.forall_mem_cons.mpr ⟨⟨(⟨"PennyMore$Plain", "<init>", "(IIII)V"⟩, prog_6_method_1_code, 5, none, 4), ⟨"PennyMore$Plain", "<init>", "(IIII)V"⟩, rfl, gw_1101, gw_510, by decide +kernel, Or.inl ⟨rfl, rfl, rfl, rfl, gw_1100⟩⟩, List.forall_mem_cons.mpr ⟨⟨(⟨"PennyMore$Plain", "does", "(LPennyMore$Day;)I"⟩, prog_6_method_2_code, 2, some (Jvm.ClassFile.FieldType.int), 4), ⟨"PennyMore$Plain", "does", "(LPennyMore$Day;)I"⟩, rfl, gw_543, gw_510, by decide +kernel, Or.inr (Or.inl ⟨rfl, by decide +kernel, rfl, gw_1102, gw_1103, gw_1104, Or.inl rfl⟩)⟩, List.forall_mem_cons.mpr ⟨⟨(⟨"PennyMore$Buyer", "bids", "(I[I)I"⟩, prog_2_method_4_code, 3, some (Jvm.ClassFile.FieldType.int), 0), ⟨"PennyMore$Plain", "bids", "(I[I)I"⟩, rfl, gw_487, gw_422, by decide +kernel, Or.inr (Or.inl ⟨rfl, by decide +kernel, rfl, gw_1105, gw_1106, gw_1104, Or.inr gw_1099⟩)⟩, List.forall_mem_cons.mpr ⟨⟨(⟨"PennyMore$Plain", "waits", "(I[I)I"⟩, prog_6_method_3_code, 3, some (Jvm.ClassFile.FieldType.int), 4), ⟨"PennyMore$Plain", "waits", "(I[I)I"⟩, rfl, gw_511, gw_510, by decide +kernel, Or.inr (Or.inl ⟨rfl, by decide +kernel, rfl, gw_1107, gw_1108, gw_1104, Or.inl rfl⟩)⟩, List.forall_mem_cons.mpr ⟨⟨(⟨"PennyMore$Falling", "<init>", "(IIII)V"⟩, prog_4_method_1_code, 5, none, 2), ⟨"PennyMore$Falling", "<init>", "(IIII)V"⟩, rfl, gw_1110, gw_548, by decide +kernel, Or.inl ⟨rfl, rfl, rfl, rfl, gw_1109⟩⟩, List.forall_mem_cons.mpr ⟨⟨(⟨"PennyMore$Falling", "does", "(LPennyMore$Day;)I"⟩, prog_4_method_2_code, 2, some (Jvm.ClassFile.FieldType.int), 2), ⟨"PennyMore$Falling", "does", "(LPennyMore$Day;)I"⟩, rfl, gw_549, gw_548, by decide +kernel, Or.inr (Or.inl ⟨rfl, by decide +kernel, rfl, gw_1111, gw_1112, gw_1113, Or.inl rfl⟩)⟩, List.forall_mem_cons.mpr ⟨⟨(⟨"PennyMore$Buyer", "waits", "(I[I)I"⟩, prog_2_method_5_code, 3, some (Jvm.ClassFile.FieldType.int), 0), ⟨"PennyMore$Falling", "waits", "(I[I)I"⟩, rfl, gw_503, gw_422, by decide +kernel, Or.inr (Or.inl ⟨rfl, by decide +kernel, rfl, gw_1114, gw_562, gw_1113, Or.inr gw_1087⟩)⟩, List.forall_mem_cons.mpr ⟨⟨(⟨"PennyMore$Buyer", "bids", "(I[I)I"⟩, prog_2_method_4_code, 3, some (Jvm.ClassFile.FieldType.int), 0), ⟨"PennyMore$Falling", "bids", "(I[I)I"⟩, rfl, gw_487, gw_422, by decide +kernel, Or.inr (Or.inl ⟨rfl, by decide +kernel, rfl, gw_1115, gw_1116, gw_1113, Or.inr gw_1087⟩)⟩, List.forall_mem_cons.mpr ⟨⟨(⟨"PennyMore$Buyer", "<init>", "(IIII)V"⟩, prog_2_method_1_code, 5, none, 0), ⟨"PennyMore$Buyer", "<init>", "(IIII)V"⟩, rfl, gw_1085, gw_422, by decide +kernel, Or.inl ⟨rfl, rfl, rfl, rfl, gw_1117⟩⟩, List.forall_mem_cons.mpr ⟨⟨(⟨"PennyMore$Buyer", "does", "(LPennyMore$Day;)I"⟩, prog_2_method_3_code, 2, some (Jvm.ClassFile.FieldType.int), 0), ⟨"PennyMore$Buyer", "does", "(LPennyMore$Day;)I"⟩, rfl, gw_535, gw_422, by decide +kernel, Or.inr (Or.inl ⟨rfl, by decide +kernel, rfl, gw_1118, gw_534, gw_1094, Or.inl rfl⟩)⟩, List.forall_mem_cons.mpr ⟨⟨(⟨"PennyMore$Buyer", "bids", "(I[I)I"⟩, prog_2_method_4_code, 3, some (Jvm.ClassFile.FieldType.int), 0), ⟨"PennyMore$Buyer", "bids", "(I[I)I"⟩, rfl, gw_487, gw_422, by decide +kernel, Or.inr (Or.inl ⟨rfl, by decide +kernel, rfl, gw_1119, gw_486, gw_1094, Or.inl rfl⟩)⟩, List.forall_mem_cons.mpr ⟨⟨(⟨"PennyMore$Shop", "<init>", "()V"⟩, prog_8_method_1_code, 1, none, 6), ⟨"PennyMore$Shop", "<init>", "()V"⟩, rfl, gw_1121, gw_434, by decide +kernel, Or.inl ⟨rfl, rfl, rfl, rfl, gw_1120⟩⟩, List.forall_mem_cons.mpr ⟨⟨(⟨"PennyMore$Day", "<init>", "(LPennyMore$Shop;)V"⟩, prog_3_method_1_code, 2, none, 1), ⟨"PennyMore$Day", "<init>", "(LPennyMore$Shop;)V"⟩, rfl, gw_1123, gw_483, by decide +kernel, Or.inl ⟨rfl, rfl, rfl, rfl, gw_1122⟩⟩, List.forall_mem_cons.mpr ⟨⟨(⟨"PennyMore$Reader", "<init>", "()V"⟩, prog_7_method_1_code, 1, none, 5), ⟨"PennyMore$Reader", "<init>", "()V"⟩, rfl, gw_1124, gw_431, by decide +kernel, Or.inr (Or.inr ⟨rfl, rfl, rfl, rfl, "PennyMore", by decide +kernel⟩)⟩, List.forall_mem_cons.mpr ⟨⟨(⟨"PennyMore$Tape", "<init>", "()V"⟩, prog_10_method_1_code, 1, none, 8), ⟨"PennyMore$Tape", "<init>", "()V"⟩, rfl, gw_1125, gw_699, by decide +kernel, Or.inr (Or.inr ⟨rfl, rfl, rfl, rfl, "PennyMore", by decide +kernel⟩)⟩, List.forall_mem_cons.mpr ⟨⟨(⟨"PennyMore$Plain", "<init>", "(IIII)V"⟩, prog_6_method_1_code, 5, none, 4), ⟨"PennyMore$Plain", "<init>", "(IIII)V"⟩, rfl, gw_1101, gw_510, by decide +kernel, Or.inl ⟨rfl, rfl, rfl, rfl, gw_1126⟩⟩, List.forall_mem_cons.mpr ⟨⟨(⟨"PennyMore$Waiting", "<init>", "(IIII)V"⟩, prog_12_method_1_code, 5, none, 10), ⟨"PennyMore$Waiting", "<init>", "(IIII)V"⟩, rfl, gw_1090, gw_489, by decide +kernel, Or.inl ⟨rfl, rfl, rfl, rfl, gw_1127⟩⟩, fun _ h => absurd h List.not_mem_nil⟩⟩⟩⟩⟩⟩⟩⟩⟩⟩⟩⟩⟩⟩⟩⟩⟩⟩⟩⟩⟩⟩⟩⟩⟩
theorem mm_SP_1_ok : ∀ e ∈ mm_SP_1, mm_okP e := List.forall_mem_cons.mpr ⟨⟨(⟨"PennyMore$Falling", "<init>", "(IIII)V"⟩, prog_4_method_1_code, 5, none, 2), ⟨"PennyMore$Falling", "<init>", "(IIII)V"⟩, rfl, gw_1110, gw_548, by decide +kernel, Or.inl ⟨rfl, rfl, rfl, rfl, gw_1128⟩⟩, List.forall_mem_cons.mpr ⟨⟨(⟨"PennyMore$Sure", "<init>", "(IIII)V"⟩, prog_9_method_1_code, 5, none, 7), ⟨"PennyMore$Sure", "<init>", "(IIII)V"⟩, rfl, gw_1130, gw_495, by decide +kernel, Or.inl ⟨rfl, rfl, rfl, rfl, gw_1129⟩⟩, List.forall_mem_cons.mpr ⟨⟨(⟨"PennyMore$Late", "<init>", "(IIII)V"⟩, prog_5_method_1_code, 5, none, 3), ⟨"PennyMore$Late", "<init>", "(IIII)V"⟩, rfl, gw_1132, gw_545, by decide +kernel, Or.inl ⟨rfl, rfl, rfl, rfl, gw_1131⟩⟩, List.forall_mem_cons.mpr ⟨⟨(⟨"PennyMore$Told", "<init>", "(IIII)V"⟩, prog_11_method_1_code, 5, none, 9), ⟨"PennyMore$Told", "<init>", "(IIII)V"⟩, rfl, gw_1134, gw_492, by decide +kernel, Or.inl ⟨rfl, rfl, rfl, rfl, gw_1133⟩⟩, List.forall_mem_cons.mpr ⟨⟨(⟨"PennyMore$Buyer", "<init>", "(IIII)V"⟩, prog_2_method_1_code, 5, none, 0), ⟨"PennyMore$Buyer", "<init>", "(IIII)V"⟩, rfl, gw_1085, gw_422, by decide +kernel, Or.inl ⟨rfl, rfl, rfl, rfl, gw_1135⟩⟩, List.forall_mem_cons.mpr ⟨⟨(⟨"PennyMore", "<init>", "()V"⟩, prog_1_method_1_code, 3, none, 11), ⟨"PennyMore", "<init>", "()V"⟩, rfl, gw_1137, gw_445, by decide +kernel, Or.inl ⟨rfl, rfl, rfl, rfl, gw_1136⟩⟩, List.forall_mem_cons.mpr ⟨⟨(⟨"PennyMoreModel", "<init>", "()V"⟩, prog_14_method_1_code, 1, none, 12), ⟨"PennyMoreModel", "<init>", "()V"⟩, rfl, gw_1139, gw_456, by decide +kernel, Or.inl ⟨rfl, rfl, rfl, rfl, gw_1138⟩⟩, fun _ h => absurd h List.not_mem_nil⟩⟩⟩⟩⟩⟩⟩
theorem mm_SP_ok : ∀ e ∈ mm_SP, mm_okP e := List.forall_mem_append.mpr ⟨mm_SP_0_ok, mm_SP_1_ok⟩
theorem mm_OI_0_ok : ∀ e ∈ mm_OI_0, mm_okO e := List.forall_mem_cons.mpr ⟨gw_1140, List.forall_mem_cons.mpr ⟨gw_1141, List.forall_mem_cons.mpr ⟨gw_1142, List.forall_mem_cons.mpr ⟨gw_1143, List.forall_mem_cons.mpr ⟨gw_1144, List.forall_mem_cons.mpr ⟨gw_1145, List.forall_mem_cons.mpr ⟨gw_1146, fun _ h => absurd h List.not_mem_nil⟩⟩⟩⟩⟩⟩⟩
theorem mm_OI_ok : ∀ e ∈ mm_OI, mm_okO e := mm_OI_0_ok
theorem mm_oi1 : Cond.instanceMethod Lib.objectInit ∈ mm_G := gw_1147
theorem mm_oi2 : Cond.code Lib.objectInit ⟨#[0xb1]⟩ 1 none ∈ mm_G := gw_1148
theorem mm_AC_0_ok : ∀ e ∈ mm_AC_0, mm_okA e := List.forall_mem_cons.mpr ⟨gw_1149, List.forall_mem_cons.mpr ⟨gw_1150, fun _ h => absurd h List.not_mem_nil⟩⟩
theorem mm_AC_ok : ∀ e ∈ mm_AC, mm_okA e := mm_AC_0_ok
theorem mm_ac1 : Cond.native arraycopyName ∈ mm_G := gw_1151
theorem mm_ac2 : Cond.static arraycopyName ∈ mm_G := gw_1152
theorem mm_ac3 : Cond.initialized "java/lang/System" ∈ mm_G := gw_1153
theorem mm_MX_0_ok : ∀ e ∈ mm_MX_0, mm_okM e := List.forall_mem_cons.mpr ⟨Or.inl ⟨rfl, gw_1154⟩, List.forall_mem_cons.mpr ⟨Or.inl ⟨rfl, gw_1155⟩, List.forall_mem_cons.mpr ⟨Or.inl ⟨rfl, gw_1156⟩, List.forall_mem_cons.mpr ⟨Or.inl ⟨rfl, gw_1157⟩, List.forall_mem_cons.mpr ⟨Or.inr ⟨rfl, gw_1158⟩, fun _ h => absurd h List.not_mem_nil⟩⟩⟩⟩⟩
theorem mm_MX_ok : ∀ e ∈ mm_MX, mm_okM e := mm_MX_0_ok
theorem mm_mx_min1 : Cond.static Lib.Math.min.name ∈ mm_G := gw_1159
theorem mm_mx_min2 : Cond.code Lib.Math.min.name Lib.Math.min.code 2 (some .int) ∈ mm_G := gw_1160
theorem mm_mx_max1 : Cond.static Lib.Math.max.name ∈ mm_G := gw_1161
theorem mm_mx_max2 : Cond.code Lib.Math.max.name Lib.Math.max.code 2 (some .int) ∈ mm_G := gw_1162
theorem mm_mx_0 : Cond.initialized "java/lang/Math" ∈ mm_G := gw_1163
theorem mm_NW_0_ok : ∀ e ∈ mm_NW_0, mm_okN e := List.forall_mem_cons.mpr ⟨⟨by decide, gw_1164, gw_1165, gw_434⟩, List.forall_mem_cons.mpr ⟨⟨by decide, gw_1166, gw_1167, gw_483⟩, List.forall_mem_cons.mpr ⟨⟨by decide, gw_1168, gw_1169, gw_431⟩, List.forall_mem_cons.mpr ⟨⟨by decide, gw_1170, gw_1171, gw_699⟩, List.forall_mem_cons.mpr ⟨⟨by decide, gw_1172, gw_1173, gw_422⟩, List.forall_mem_cons.mpr ⟨⟨by decide, gw_1174, gw_1175, gw_510⟩, List.forall_mem_cons.mpr ⟨⟨by decide, gw_1176, gw_1177, gw_489⟩, List.forall_mem_cons.mpr ⟨⟨by decide, gw_1178, gw_1179, gw_548⟩, List.forall_mem_cons.mpr ⟨⟨by decide, gw_1180, gw_1181, gw_495⟩, List.forall_mem_cons.mpr ⟨⟨by decide, gw_1182, gw_1183, gw_545⟩, List.forall_mem_cons.mpr ⟨⟨by decide, gw_1184, gw_1185, gw_492⟩, List.forall_mem_cons.mpr ⟨⟨by decide, gw_1186, gw_1187, gw_445⟩, List.forall_mem_cons.mpr ⟨⟨by decide, gw_1188, gw_1189, gw_456⟩, fun _ h => absurd h List.not_mem_nil⟩⟩⟩⟩⟩⟩⟩⟩⟩⟩⟩⟩⟩
theorem mm_NW_ok : ∀ e ∈ mm_NW, mm_okN e := mm_NW_0_ok
theorem mm_inst : ∀ k, k < 13 → ∃ n, Cond.instantiable (mm_ck k) n ∈ mm_G := by
  intro k hk
  match k, hk with
  | 0, _ => exact ⟨_, gw_1173⟩
  | 1, _ => exact ⟨_, gw_1167⟩
  | 2, _ => exact ⟨_, gw_1179⟩
  | 3, _ => exact ⟨_, gw_1183⟩
  | 4, _ => exact ⟨_, gw_1175⟩
  | 5, _ => exact ⟨_, gw_1169⟩
  | 6, _ => exact ⟨_, gw_1165⟩
  | 7, _ => exact ⟨_, gw_1181⟩
  | 8, _ => exact ⟨_, gw_1171⟩
  | 9, _ => exact ⟨_, gw_1185⟩
  | 10, _ => exact ⟨_, gw_1177⟩
  | 11, _ => exact ⟨_, gw_1187⟩
  | 12, _ => exact ⟨_, gw_1189⟩
  | k + 13, h => exact absurd h (by omega)
theorem mm_uws_0 : ∀ w ∈ u_ws RX0 TX0 4, w ∈ mm_G := by
  show ∀ w ∈ [u_lay RX0 TX0 0, u_lay RX0 TX0 1, u_lay RX0 TX0 2, u_lay RX0 TX0 3], w ∈ mm_G
  exact List.forall_mem_cons.mpr ⟨gw_1190, List.forall_mem_cons.mpr ⟨gw_1191, List.forall_mem_cons.mpr ⟨gw_1192, List.forall_mem_cons.mpr ⟨gw_1193, fun _ h => absurd h List.not_mem_nil⟩⟩⟩⟩
theorem mm_uws_1 : ∀ w ∈ u_ws RX1 TX1 20, w ∈ mm_G := by
  show ∀ w ∈ [u_lay RX1 TX1 0, u_lay RX1 TX1 1, u_lay RX1 TX1 2, u_lay RX1 TX1 3, u_lay RX1 TX1 4, u_lay RX1 TX1 5, u_lay RX1 TX1 6, u_lay RX1 TX1 7, u_lay RX1 TX1 8, u_lay RX1 TX1 9, u_lay RX1 TX1 10, u_lay RX1 TX1 11, u_lay RX1 TX1 12, u_lay RX1 TX1 13, u_lay RX1 TX1 14, u_lay RX1 TX1 15, u_lay RX1 TX1 16, u_lay RX1 TX1 17, u_lay RX1 TX1 18, u_lay RX1 TX1 19], w ∈ mm_G
  exact List.forall_mem_cons.mpr ⟨gw_1194, List.forall_mem_cons.mpr ⟨gw_1195, List.forall_mem_cons.mpr ⟨gw_1196, List.forall_mem_cons.mpr ⟨gw_1197, List.forall_mem_cons.mpr ⟨gw_1198, List.forall_mem_cons.mpr ⟨gw_1199, List.forall_mem_cons.mpr ⟨gw_1200, List.forall_mem_cons.mpr ⟨gw_1201, List.forall_mem_cons.mpr ⟨gw_1202, List.forall_mem_cons.mpr ⟨gw_1203, List.forall_mem_cons.mpr ⟨gw_1204, List.forall_mem_cons.mpr ⟨gw_1205, List.forall_mem_cons.mpr ⟨gw_1206, List.forall_mem_cons.mpr ⟨gw_1207, List.forall_mem_cons.mpr ⟨gw_1208, List.forall_mem_cons.mpr ⟨gw_1209, List.forall_mem_cons.mpr ⟨gw_1210, List.forall_mem_cons.mpr ⟨gw_1211, List.forall_mem_cons.mpr ⟨gw_1212, List.forall_mem_cons.mpr ⟨gw_1213, fun _ h => absurd h List.not_mem_nil⟩⟩⟩⟩⟩⟩⟩⟩⟩⟩⟩⟩⟩⟩⟩⟩⟩⟩⟩⟩
theorem mm_uws_2 : ∀ w ∈ u_ws RX2 TX0 4, w ∈ mm_G := by
  show ∀ w ∈ [u_lay RX2 TX0 0, u_lay RX2 TX0 1, u_lay RX2 TX0 2, u_lay RX2 TX0 3], w ∈ mm_G
  exact List.forall_mem_cons.mpr ⟨gw_1214, List.forall_mem_cons.mpr ⟨gw_1215, List.forall_mem_cons.mpr ⟨gw_1216, List.forall_mem_cons.mpr ⟨gw_1217, fun _ h => absurd h List.not_mem_nil⟩⟩⟩⟩
theorem mm_uws_3 : ∀ w ∈ u_ws RX3 TX0 4, w ∈ mm_G := by
  show ∀ w ∈ [u_lay RX3 TX0 0, u_lay RX3 TX0 1, u_lay RX3 TX0 2, u_lay RX3 TX0 3], w ∈ mm_G
  exact List.forall_mem_cons.mpr ⟨gw_1218, List.forall_mem_cons.mpr ⟨gw_1219, List.forall_mem_cons.mpr ⟨gw_1220, List.forall_mem_cons.mpr ⟨gw_1221, fun _ h => absurd h List.not_mem_nil⟩⟩⟩⟩
theorem mm_uws_4 : ∀ w ∈ u_ws RX4 TX0 4, w ∈ mm_G := by
  show ∀ w ∈ [u_lay RX4 TX0 0, u_lay RX4 TX0 1, u_lay RX4 TX0 2, u_lay RX4 TX0 3], w ∈ mm_G
  exact List.forall_mem_cons.mpr ⟨gw_1222, List.forall_mem_cons.mpr ⟨gw_1223, List.forall_mem_cons.mpr ⟨gw_1224, List.forall_mem_cons.mpr ⟨gw_1225, fun _ h => absurd h List.not_mem_nil⟩⟩⟩⟩
theorem mm_uws_5 : ∀ w ∈ u_ws RX5 TX5 4, w ∈ mm_G := by
  show ∀ w ∈ [u_lay RX5 TX5 0, u_lay RX5 TX5 1, u_lay RX5 TX5 2, u_lay RX5 TX5 3], w ∈ mm_G
  exact List.forall_mem_cons.mpr ⟨gw_1226, List.forall_mem_cons.mpr ⟨gw_1227, List.forall_mem_cons.mpr ⟨gw_1228, List.forall_mem_cons.mpr ⟨gw_1229, fun _ h => absurd h List.not_mem_nil⟩⟩⟩⟩
theorem mm_uws_6 : ∀ w ∈ u_ws RX6 TX6 10, w ∈ mm_G := by
  show ∀ w ∈ [u_lay RX6 TX6 0, u_lay RX6 TX6 1, u_lay RX6 TX6 2, u_lay RX6 TX6 3, u_lay RX6 TX6 4, u_lay RX6 TX6 5, u_lay RX6 TX6 6, u_lay RX6 TX6 7, u_lay RX6 TX6 8, u_lay RX6 TX6 9], w ∈ mm_G
  exact List.forall_mem_cons.mpr ⟨gw_1230, List.forall_mem_cons.mpr ⟨gw_1231, List.forall_mem_cons.mpr ⟨gw_1232, List.forall_mem_cons.mpr ⟨gw_1233, List.forall_mem_cons.mpr ⟨gw_1234, List.forall_mem_cons.mpr ⟨gw_1235, List.forall_mem_cons.mpr ⟨gw_1236, List.forall_mem_cons.mpr ⟨gw_1237, List.forall_mem_cons.mpr ⟨gw_1238, List.forall_mem_cons.mpr ⟨gw_1239, fun _ h => absurd h List.not_mem_nil⟩⟩⟩⟩⟩⟩⟩⟩⟩⟩
theorem mm_uws_7 : ∀ w ∈ u_ws RX7 TX0 4, w ∈ mm_G := by
  show ∀ w ∈ [u_lay RX7 TX0 0, u_lay RX7 TX0 1, u_lay RX7 TX0 2, u_lay RX7 TX0 3], w ∈ mm_G
  exact List.forall_mem_cons.mpr ⟨gw_1240, List.forall_mem_cons.mpr ⟨gw_1241, List.forall_mem_cons.mpr ⟨gw_1242, List.forall_mem_cons.mpr ⟨gw_1243, fun _ h => absurd h List.not_mem_nil⟩⟩⟩⟩
theorem mm_uws_8 : ∀ w ∈ u_ws RX8 TX8 3, w ∈ mm_G := by
  show ∀ w ∈ [u_lay RX8 TX8 0, u_lay RX8 TX8 1, u_lay RX8 TX8 2], w ∈ mm_G
  exact List.forall_mem_cons.mpr ⟨gw_1244, List.forall_mem_cons.mpr ⟨gw_1245, List.forall_mem_cons.mpr ⟨gw_1246, fun _ h => absurd h List.not_mem_nil⟩⟩⟩
theorem mm_uws_9 : ∀ w ∈ u_ws RX9 TX0 4, w ∈ mm_G := by
  show ∀ w ∈ [u_lay RX9 TX0 0, u_lay RX9 TX0 1, u_lay RX9 TX0 2, u_lay RX9 TX0 3], w ∈ mm_G
  exact List.forall_mem_cons.mpr ⟨gw_1247, List.forall_mem_cons.mpr ⟨gw_1248, List.forall_mem_cons.mpr ⟨gw_1249, List.forall_mem_cons.mpr ⟨gw_1250, fun _ h => absurd h List.not_mem_nil⟩⟩⟩⟩
theorem mm_uws_10 : ∀ w ∈ u_ws RX10 TX0 4, w ∈ mm_G := by
  show ∀ w ∈ [u_lay RX10 TX0 0, u_lay RX10 TX0 1, u_lay RX10 TX0 2, u_lay RX10 TX0 3], w ∈ mm_G
  exact List.forall_mem_cons.mpr ⟨gw_1251, List.forall_mem_cons.mpr ⟨gw_1252, List.forall_mem_cons.mpr ⟨gw_1253, List.forall_mem_cons.mpr ⟨gw_1254, fun _ h => absurd h List.not_mem_nil⟩⟩⟩⟩
theorem mm_uws_11 : ∀ w ∈ u_ws RX11 TX11 13, w ∈ mm_G := by
  show ∀ w ∈ [u_lay RX11 TX11 0, u_lay RX11 TX11 1, u_lay RX11 TX11 2, u_lay RX11 TX11 3, u_lay RX11 TX11 4, u_lay RX11 TX11 5, u_lay RX11 TX11 6, u_lay RX11 TX11 7, u_lay RX11 TX11 8, u_lay RX11 TX11 9, u_lay RX11 TX11 10, u_lay RX11 TX11 11, u_lay RX11 TX11 12], w ∈ mm_G
  exact List.forall_mem_cons.mpr ⟨gw_1255, List.forall_mem_cons.mpr ⟨gw_1256, List.forall_mem_cons.mpr ⟨gw_1257, List.forall_mem_cons.mpr ⟨gw_1258, List.forall_mem_cons.mpr ⟨gw_1259, List.forall_mem_cons.mpr ⟨gw_1260, List.forall_mem_cons.mpr ⟨gw_1261, List.forall_mem_cons.mpr ⟨gw_1262, List.forall_mem_cons.mpr ⟨gw_1263, List.forall_mem_cons.mpr ⟨gw_1264, List.forall_mem_cons.mpr ⟨gw_1265, List.forall_mem_cons.mpr ⟨gw_1266, List.forall_mem_cons.mpr ⟨gw_1267, fun _ h => absurd h List.not_mem_nil⟩⟩⟩⟩⟩⟩⟩⟩⟩⟩⟩⟩⟩
theorem mm_uws_12 : ∀ w ∈ u_ws RX12 TX12 76, w ∈ mm_G := by
  show ∀ w ∈ [u_lay RX12 TX12 0, u_lay RX12 TX12 1, u_lay RX12 TX12 2, u_lay RX12 TX12 3, u_lay RX12 TX12 4, u_lay RX12 TX12 5, u_lay RX12 TX12 6, u_lay RX12 TX12 7, u_lay RX12 TX12 8, u_lay RX12 TX12 9, u_lay RX12 TX12 10, u_lay RX12 TX12 11, u_lay RX12 TX12 12, u_lay RX12 TX12 13, u_lay RX12 TX12 14, u_lay RX12 TX12 15, u_lay RX12 TX12 16, u_lay RX12 TX12 17, u_lay RX12 TX12 18, u_lay RX12 TX12 19, u_lay RX12 TX12 20, u_lay RX12 TX12 21, u_lay RX12 TX12 22, u_lay RX12 TX12 23, u_lay RX12 TX12 24, u_lay RX12 TX12 25, u_lay RX12 TX12 26, u_lay RX12 TX12 27, u_lay RX12 TX12 28, u_lay RX12 TX12 29, u_lay RX12 TX12 30, u_lay RX12 TX12 31, u_lay RX12 TX12 32, u_lay RX12 TX12 33, u_lay RX12 TX12 34, u_lay RX12 TX12 35, u_lay RX12 TX12 36, u_lay RX12 TX12 37, u_lay RX12 TX12 38, u_lay RX12 TX12 39, u_lay RX12 TX12 40, u_lay RX12 TX12 41, u_lay RX12 TX12 42, u_lay RX12 TX12 43, u_lay RX12 TX12 44, u_lay RX12 TX12 45, u_lay RX12 TX12 46, u_lay RX12 TX12 47, u_lay RX12 TX12 48, u_lay RX12 TX12 49, u_lay RX12 TX12 50, u_lay RX12 TX12 51, u_lay RX12 TX12 52, u_lay RX12 TX12 53, u_lay RX12 TX12 54, u_lay RX12 TX12 55, u_lay RX12 TX12 56, u_lay RX12 TX12 57, u_lay RX12 TX12 58, u_lay RX12 TX12 59, u_lay RX12 TX12 60, u_lay RX12 TX12 61, u_lay RX12 TX12 62, u_lay RX12 TX12 63, u_lay RX12 TX12 64, u_lay RX12 TX12 65, u_lay RX12 TX12 66, u_lay RX12 TX12 67, u_lay RX12 TX12 68, u_lay RX12 TX12 69, u_lay RX12 TX12 70, u_lay RX12 TX12 71, u_lay RX12 TX12 72, u_lay RX12 TX12 73, u_lay RX12 TX12 74, u_lay RX12 TX12 75], w ∈ mm_G
  exact List.forall_mem_cons.mpr ⟨gw_1268, List.forall_mem_cons.mpr ⟨gw_1269, List.forall_mem_cons.mpr ⟨gw_1270, List.forall_mem_cons.mpr ⟨gw_1271, List.forall_mem_cons.mpr ⟨gw_1272, List.forall_mem_cons.mpr ⟨gw_1273, List.forall_mem_cons.mpr ⟨gw_1274, List.forall_mem_cons.mpr ⟨gw_1275, List.forall_mem_cons.mpr ⟨gw_1276, List.forall_mem_cons.mpr ⟨gw_1277, List.forall_mem_cons.mpr ⟨gw_1278, List.forall_mem_cons.mpr ⟨gw_1279, List.forall_mem_cons.mpr ⟨gw_1280, List.forall_mem_cons.mpr ⟨gw_1281, List.forall_mem_cons.mpr ⟨gw_1282, List.forall_mem_cons.mpr ⟨gw_1283, List.forall_mem_cons.mpr ⟨gw_1284, List.forall_mem_cons.mpr ⟨gw_1285, List.forall_mem_cons.mpr ⟨gw_1286, List.forall_mem_cons.mpr ⟨gw_1287, List.forall_mem_cons.mpr ⟨gw_1288, List.forall_mem_cons.mpr ⟨gw_1289, List.forall_mem_cons.mpr ⟨gw_1290, List.forall_mem_cons.mpr ⟨gw_1291, List.forall_mem_cons.mpr ⟨gw_1292, List.forall_mem_cons.mpr ⟨gw_1293, List.forall_mem_cons.mpr ⟨gw_1294, List.forall_mem_cons.mpr ⟨gw_1295, List.forall_mem_cons.mpr ⟨gw_1296, List.forall_mem_cons.mpr ⟨gw_1297, List.forall_mem_cons.mpr ⟨gw_1298, List.forall_mem_cons.mpr ⟨gw_1299, List.forall_mem_cons.mpr ⟨gw_1300, List.forall_mem_cons.mpr ⟨gw_1301, List.forall_mem_cons.mpr ⟨gw_1302, List.forall_mem_cons.mpr ⟨gw_1303, List.forall_mem_cons.mpr ⟨gw_1304, List.forall_mem_cons.mpr ⟨gw_1305, List.forall_mem_cons.mpr ⟨gw_1306, List.forall_mem_cons.mpr ⟨gw_1307, List.forall_mem_cons.mpr ⟨gw_1308, List.forall_mem_cons.mpr ⟨gw_1309, List.forall_mem_cons.mpr ⟨gw_1310, List.forall_mem_cons.mpr ⟨gw_1311, List.forall_mem_cons.mpr ⟨gw_1312, List.forall_mem_cons.mpr ⟨gw_1313, List.forall_mem_cons.mpr ⟨gw_1314, List.forall_mem_cons.mpr ⟨gw_1315, List.forall_mem_cons.mpr ⟨gw_1316, List.forall_mem_cons.mpr ⟨gw_1317, List.forall_mem_cons.mpr ⟨gw_1318, List.forall_mem_cons.mpr ⟨gw_1319, List.forall_mem_cons.mpr ⟨gw_1320, List.forall_mem_cons.mpr ⟨gw_1321, List.forall_mem_cons.mpr ⟨gw_1322, List.forall_mem_cons.mpr ⟨gw_1323, List.forall_mem_cons.mpr ⟨gw_1324, List.forall_mem_cons.mpr ⟨gw_1325, List.forall_mem_cons.mpr ⟨gw_1326, List.forall_mem_cons.mpr ⟨gw_1327, List.forall_mem_cons.mpr ⟨gw_1328, List.forall_mem_cons.mpr ⟨gw_1329, List.forall_mem_cons.mpr ⟨gw_1330, List.forall_mem_cons.mpr ⟨gw_1331, List.forall_mem_cons.mpr ⟨gw_1332, List.forall_mem_cons.mpr ⟨gw_1333, List.forall_mem_cons.mpr ⟨gw_1334, List.forall_mem_cons.mpr ⟨gw_1335, List.forall_mem_cons.mpr ⟨gw_1336, List.forall_mem_cons.mpr ⟨gw_1337, List.forall_mem_cons.mpr ⟨gw_1338, List.forall_mem_cons.mpr ⟨gw_1339, List.forall_mem_cons.mpr ⟨gw_1340, List.forall_mem_cons.mpr ⟨gw_1341, List.forall_mem_cons.mpr ⟨gw_1342, List.forall_mem_cons.mpr ⟨gw_1343, fun _ h => absurd h List.not_mem_nil⟩⟩⟩⟩⟩⟩⟩⟩⟩⟩⟩⟩⟩⟩⟩⟩⟩⟩⟩⟩⟩⟩⟩⟩⟩⟩⟩⟩⟩⟩⟩⟩⟩⟩⟩⟩⟩⟩⟩⟩⟩⟩⟩⟩⟩⟩⟩⟩⟩⟩⟩⟩⟩⟩⟩⟩⟩⟩⟩⟩⟩⟩⟩⟩⟩⟩⟩⟩⟩⟩⟩⟩⟩⟩⟩⟩
theorem mm_uws : ∀ k, k < 13 → ∀ w ∈ u_ws (mm_ck k) (mm_T k) (mm_NF k), w ∈ mm_G := by
  intro k hk
  match k, hk with
  | 0, _ => exact mm_uws_0
  | 1, _ => exact mm_uws_1
  | 2, _ => exact mm_uws_2
  | 3, _ => exact mm_uws_3
  | 4, _ => exact mm_uws_4
  | 5, _ => exact mm_uws_5
  | 6, _ => exact mm_uws_6
  | 7, _ => exact mm_uws_7
  | 8, _ => exact mm_uws_8
  | 9, _ => exact mm_uws_9
  | 10, _ => exact mm_uws_10
  | 11, _ => exact mm_uws_11
  | 12, _ => exact mm_uws_12
  | k + 13, h => exact absurd h (by omega)
theorem mm_nms : ∀ k, k < 13 → ∀ a, a < mm_NF k → ∀ b, b < mm_NF k → a ≠ b → (mm_T k a).2.1 ≠ (mm_T k b).2.1 := by
  intro k hk
  match k, hk with
  | 0, _ => exact nmX0
  | 1, _ => exact nmX1
  | 2, _ => exact nmX0
  | 3, _ => exact nmX0
  | 4, _ => exact nmX0
  | 5, _ => exact nmX5
  | 6, _ => exact nmX6
  | 7, _ => exact nmX0
  | 8, _ => exact nmX8
  | 9, _ => exact nmX0
  | 10, _ => exact nmX0
  | 11, _ => exact nmX11
  | 12, _ => exact nmX12
  | k + 13, h => exact absurd h (by omega)
def mm_ty (k : Nat) : Nat → FieldType := match k with
  | 1 => tyX1
  | 5 => tyX5
  | 6 => tyX6
  | 8 => tyX8
  | 11 => tyX11
  | 12 => tyX12
  | _ => tyX0
theorem mm_tys : ∀ k, k < 13 → ∀ j, j < mm_NF k → parseFieldDescriptor (mm_T k j).2.2.1 = some (mm_ty k j) := by
  intro k hk
  match k, hk with
  | 0, _ => exact tyX0_ok
  | 1, _ => exact tyX1_ok
  | 2, _ => exact tyX0_ok
  | 3, _ => exact tyX0_ok
  | 4, _ => exact tyX0_ok
  | 5, _ => exact tyX5_ok
  | 6, _ => exact tyX6_ok
  | 7, _ => exact tyX0_ok
  | 8, _ => exact tyX8_ok
  | 9, _ => exact tyX0_ok
  | 10, _ => exact tyX0_ok
  | 11, _ => exact tyX11_ok
  | 12, _ => exact tyX12_ok
  | k + 13, h => exact absurd h (by omega)
/-- the sorts are the types -/
def mm_tyOk (t : Nat) (ty : FieldType) : Prop := (t = 0 ∧ ty = .int) ∨ (t = 1 ∧ ty = .long) ∨ (t = 3 ∧ ty = .boolean) ∨ (t = 2 ∧ ((∃ n, ty = .object n) ∨ ∃ u, ty = .array u))
theorem mm_tgs : ∀ k, k < 13 → ∀ j, j < mm_NF k → mm_tyOk (mm_tg k j) (mm_ty k j) := by
  intro k hk j hj
  match k, hk with
  | 0, _ =>
    match j, hj with
    | 0, _ => exact Or.inl ⟨rfl, rfl⟩
    | 1, _ => exact Or.inl ⟨rfl, rfl⟩
    | 2, _ => exact Or.inl ⟨rfl, rfl⟩
    | 3, _ => exact Or.inl ⟨rfl, rfl⟩
    | j + 4, h => exact absurd h (by show ¬ j + 4 < 4; omega)
  | 1, _ =>
    match j, hj with
    | 0, _ => exact Or.inr (Or.inr (Or.inr ⟨rfl, Or.inr ⟨_, rfl⟩⟩))
    | 1, _ => exact Or.inr (Or.inr (Or.inr ⟨rfl, Or.inr ⟨_, rfl⟩⟩))
    | 2, _ => exact Or.inr (Or.inr (Or.inr ⟨rfl, Or.inr ⟨_, rfl⟩⟩))
    | 3, _ => exact Or.inr (Or.inr (Or.inr ⟨rfl, Or.inr ⟨_, rfl⟩⟩))
    | 4, _ => exact Or.inr (Or.inr (Or.inr ⟨rfl, Or.inr ⟨_, rfl⟩⟩))
    | 5, _ => exact Or.inr (Or.inr (Or.inr ⟨rfl, Or.inr ⟨_, rfl⟩⟩))
    | 6, _ => exact Or.inr (Or.inr (Or.inr ⟨rfl, Or.inr ⟨_, rfl⟩⟩))
    | 7, _ => exact Or.inr (Or.inr (Or.inr ⟨rfl, Or.inr ⟨_, rfl⟩⟩))
    | 8, _ => exact Or.inr (Or.inr (Or.inr ⟨rfl, Or.inl ⟨_, rfl⟩⟩))
    | 9, _ => exact Or.inl ⟨rfl, rfl⟩
    | 10, _ => exact Or.inl ⟨rfl, rfl⟩
    | 11, _ => exact Or.inl ⟨rfl, rfl⟩
    | 12, _ => exact Or.inl ⟨rfl, rfl⟩
    | 13, _ => exact Or.inl ⟨rfl, rfl⟩
    | 14, _ => exact Or.inl ⟨rfl, rfl⟩
    | 15, _ => exact Or.inl ⟨rfl, rfl⟩
    | 16, _ => exact Or.inl ⟨rfl, rfl⟩
    | 17, _ => exact Or.inl ⟨rfl, rfl⟩
    | 18, _ => exact Or.inl ⟨rfl, rfl⟩
    | 19, _ => exact Or.inl ⟨rfl, rfl⟩
    | j + 20, h => exact absurd h (by show ¬ j + 20 < 20; omega)
  | 2, _ =>
    match j, hj with
    | 0, _ => exact Or.inl ⟨rfl, rfl⟩
    | 1, _ => exact Or.inl ⟨rfl, rfl⟩
    | 2, _ => exact Or.inl ⟨rfl, rfl⟩
    | 3, _ => exact Or.inl ⟨rfl, rfl⟩
    | j + 4, h => exact absurd h (by show ¬ j + 4 < 4; omega)
  | 3, _ =>
    match j, hj with
    | 0, _ => exact Or.inl ⟨rfl, rfl⟩
    | 1, _ => exact Or.inl ⟨rfl, rfl⟩
    | 2, _ => exact Or.inl ⟨rfl, rfl⟩
    | 3, _ => exact Or.inl ⟨rfl, rfl⟩
    | j + 4, h => exact absurd h (by show ¬ j + 4 < 4; omega)
  | 4, _ =>
    match j, hj with
    | 0, _ => exact Or.inl ⟨rfl, rfl⟩
    | 1, _ => exact Or.inl ⟨rfl, rfl⟩
    | 2, _ => exact Or.inl ⟨rfl, rfl⟩
    | 3, _ => exact Or.inl ⟨rfl, rfl⟩
    | j + 4, h => exact absurd h (by show ¬ j + 4 < 4; omega)
  | 5, _ =>
    match j, hj with
    | 0, _ => exact Or.inl ⟨rfl, rfl⟩
    | 1, _ => exact Or.inr (Or.inr (Or.inr ⟨rfl, Or.inr ⟨_, rfl⟩⟩))
    | 2, _ => exact Or.inl ⟨rfl, rfl⟩
    | 3, _ => exact Or.inr (Or.inr (Or.inr ⟨rfl, Or.inl ⟨_, rfl⟩⟩))
    | j + 4, h => exact absurd h (by show ¬ j + 4 < 4; omega)
  | 6, _ =>
    match j, hj with
    | 0, _ => exact Or.inl ⟨rfl, rfl⟩
    | 1, _ => exact Or.inl ⟨rfl, rfl⟩
    | 2, _ => exact Or.inl ⟨rfl, rfl⟩
    | 3, _ => exact Or.inl ⟨rfl, rfl⟩
    | 4, _ => exact Or.inr (Or.inr (Or.inr ⟨rfl, Or.inr ⟨_, rfl⟩⟩))
    | 5, _ => exact Or.inr (Or.inr (Or.inr ⟨rfl, Or.inr ⟨_, rfl⟩⟩))
    | 6, _ => exact Or.inr (Or.inr (Or.inr ⟨rfl, Or.inr ⟨_, rfl⟩⟩))
    | 7, _ => exact Or.inr (Or.inr (Or.inr ⟨rfl, Or.inr ⟨_, rfl⟩⟩))
    | 8, _ => exact Or.inl ⟨rfl, rfl⟩
    | 9, _ => exact Or.inl ⟨rfl, rfl⟩
    | j + 10, h => exact absurd h (by show ¬ j + 10 < 10; omega)
  | 7, _ =>
    match j, hj with
    | 0, _ => exact Or.inl ⟨rfl, rfl⟩
    | 1, _ => exact Or.inl ⟨rfl, rfl⟩
    | 2, _ => exact Or.inl ⟨rfl, rfl⟩
    | 3, _ => exact Or.inl ⟨rfl, rfl⟩
    | j + 4, h => exact absurd h (by show ¬ j + 4 < 4; omega)
  | 8, _ =>
    match j, hj with
    | 0, _ => exact Or.inr (Or.inr (Or.inr ⟨rfl, Or.inr ⟨_, rfl⟩⟩))
    | 1, _ => exact Or.inl ⟨rfl, rfl⟩
    | 2, _ => exact Or.inl ⟨rfl, rfl⟩
    | j + 3, h => exact absurd h (by show ¬ j + 3 < 3; omega)
  | 9, _ =>
    match j, hj with
    | 0, _ => exact Or.inl ⟨rfl, rfl⟩
    | 1, _ => exact Or.inl ⟨rfl, rfl⟩
    | 2, _ => exact Or.inl ⟨rfl, rfl⟩
    | 3, _ => exact Or.inl ⟨rfl, rfl⟩
    | j + 4, h => exact absurd h (by show ¬ j + 4 < 4; omega)
  | 10, _ =>
    match j, hj with
    | 0, _ => exact Or.inl ⟨rfl, rfl⟩
    | 1, _ => exact Or.inl ⟨rfl, rfl⟩
    | 2, _ => exact Or.inl ⟨rfl, rfl⟩
    | 3, _ => exact Or.inl ⟨rfl, rfl⟩
    | j + 4, h => exact absurd h (by show ¬ j + 4 < 4; omega)
  | 11, _ =>
    match j, hj with
    | 0, _ => exact Or.inr (Or.inr (Or.inr ⟨rfl, Or.inl ⟨_, rfl⟩⟩))
    | 1, _ => exact Or.inr (Or.inr (Or.inr ⟨rfl, Or.inl ⟨_, rfl⟩⟩))
    | 2, _ => exact Or.inr (Or.inr (Or.inr ⟨rfl, Or.inl ⟨_, rfl⟩⟩))
    | 3, _ => exact Or.inr (Or.inr (Or.inr ⟨rfl, Or.inl ⟨_, rfl⟩⟩))
    | 4, _ => exact Or.inr (Or.inr (Or.inr ⟨rfl, Or.inr ⟨_, rfl⟩⟩))
    | 5, _ => exact Or.inr (Or.inr (Or.inr ⟨rfl, Or.inl ⟨_, rfl⟩⟩))
    | 6, _ => exact Or.inr (Or.inr (Or.inr ⟨rfl, Or.inr ⟨_, rfl⟩⟩))
    | 7, _ => exact Or.inr (Or.inr (Or.inr ⟨rfl, Or.inr ⟨_, rfl⟩⟩))
    | 8, _ => exact Or.inr (Or.inr (Or.inr ⟨rfl, Or.inr ⟨_, rfl⟩⟩))
    | 9, _ => exact Or.inr (Or.inr (Or.inr ⟨rfl, Or.inr ⟨_, rfl⟩⟩))
    | 10, _ => exact Or.inr (Or.inr (Or.inr ⟨rfl, Or.inr ⟨_, rfl⟩⟩))
    | 11, _ => exact Or.inl ⟨rfl, rfl⟩
    | 12, _ => exact Or.inr (Or.inr (Or.inl ⟨rfl, rfl⟩))
    | j + 13, h => exact absurd h (by show ¬ j + 13 < 13; omega)
  | 12, _ =>
    match j, hj with
    | 0, _ => exact Or.inl ⟨rfl, rfl⟩
    | 1, _ => exact Or.inr (Or.inr (Or.inr ⟨rfl, Or.inr ⟨_, rfl⟩⟩))
    | 2, _ => exact Or.inr (Or.inr (Or.inr ⟨rfl, Or.inr ⟨_, rfl⟩⟩))
    | 3, _ => exact Or.inr (Or.inr (Or.inr ⟨rfl, Or.inr ⟨_, rfl⟩⟩))
    | 4, _ => exact Or.inr (Or.inr (Or.inr ⟨rfl, Or.inr ⟨_, rfl⟩⟩))
    | 5, _ => exact Or.inr (Or.inr (Or.inr ⟨rfl, Or.inr ⟨_, rfl⟩⟩))
    | 6, _ => exact Or.inr (Or.inr (Or.inr ⟨rfl, Or.inr ⟨_, rfl⟩⟩))
    | 7, _ => exact Or.inr (Or.inr (Or.inr ⟨rfl, Or.inr ⟨_, rfl⟩⟩))
    | 8, _ => exact Or.inl ⟨rfl, rfl⟩
    | 9, _ => exact Or.inr (Or.inr (Or.inr ⟨rfl, Or.inr ⟨_, rfl⟩⟩))
    | 10, _ => exact Or.inl ⟨rfl, rfl⟩
    | 11, _ => exact Or.inl ⟨rfl, rfl⟩
    | 12, _ => exact Or.inl ⟨rfl, rfl⟩
    | 13, _ => exact Or.inl ⟨rfl, rfl⟩
    | 14, _ => exact Or.inl ⟨rfl, rfl⟩
    | 15, _ => exact Or.inl ⟨rfl, rfl⟩
    | 16, _ => exact Or.inr (Or.inr (Or.inr ⟨rfl, Or.inr ⟨_, rfl⟩⟩))
    | 17, _ => exact Or.inl ⟨rfl, rfl⟩
    | 18, _ => exact Or.inl ⟨rfl, rfl⟩
    | 19, _ => exact Or.inr (Or.inr (Or.inr ⟨rfl, Or.inr ⟨_, rfl⟩⟩))
    | 20, _ => exact Or.inr (Or.inr (Or.inr ⟨rfl, Or.inr ⟨_, rfl⟩⟩))
    | 21, _ => exact Or.inr (Or.inr (Or.inr ⟨rfl, Or.inr ⟨_, rfl⟩⟩))
    | 22, _ => exact Or.inr (Or.inr (Or.inr ⟨rfl, Or.inr ⟨_, rfl⟩⟩))
    | 23, _ => exact Or.inr (Or.inr (Or.inr ⟨rfl, Or.inr ⟨_, rfl⟩⟩))
    | 24, _ => exact Or.inr (Or.inr (Or.inr ⟨rfl, Or.inr ⟨_, rfl⟩⟩))
    | 25, _ => exact Or.inr (Or.inr (Or.inr ⟨rfl, Or.inr ⟨_, rfl⟩⟩))
    | 26, _ => exact Or.inl ⟨rfl, rfl⟩
    | 27, _ => exact Or.inl ⟨rfl, rfl⟩
    | 28, _ => exact Or.inl ⟨rfl, rfl⟩
    | 29, _ => exact Or.inr (Or.inr (Or.inr ⟨rfl, Or.inr ⟨_, rfl⟩⟩))
    | 30, _ => exact Or.inr (Or.inr (Or.inr ⟨rfl, Or.inr ⟨_, rfl⟩⟩))
    | 31, _ => exact Or.inr (Or.inr (Or.inr ⟨rfl, Or.inr ⟨_, rfl⟩⟩))
    | 32, _ => exact Or.inr (Or.inr (Or.inr ⟨rfl, Or.inr ⟨_, rfl⟩⟩))
    | 33, _ => exact Or.inr (Or.inr (Or.inr ⟨rfl, Or.inr ⟨_, rfl⟩⟩))
    | 34, _ => exact Or.inr (Or.inr (Or.inr ⟨rfl, Or.inr ⟨_, rfl⟩⟩))
    | 35, _ => exact Or.inr (Or.inr (Or.inr ⟨rfl, Or.inr ⟨_, rfl⟩⟩))
    | 36, _ => exact Or.inl ⟨rfl, rfl⟩
    | 37, _ => exact Or.inl ⟨rfl, rfl⟩
    | 38, _ => exact Or.inr (Or.inr (Or.inr ⟨rfl, Or.inr ⟨_, rfl⟩⟩))
    | 39, _ => exact Or.inl ⟨rfl, rfl⟩
    | 40, _ => exact Or.inl ⟨rfl, rfl⟩
    | 41, _ => exact Or.inr (Or.inr (Or.inr ⟨rfl, Or.inr ⟨_, rfl⟩⟩))
    | 42, _ => exact Or.inl ⟨rfl, rfl⟩
    | 43, _ => exact Or.inl ⟨rfl, rfl⟩
    | 44, _ => exact Or.inr (Or.inr (Or.inr ⟨rfl, Or.inr ⟨_, rfl⟩⟩))
    | 45, _ => exact Or.inr (Or.inr (Or.inr ⟨rfl, Or.inr ⟨_, rfl⟩⟩))
    | 46, _ => exact Or.inr (Or.inr (Or.inr ⟨rfl, Or.inr ⟨_, rfl⟩⟩))
    | 47, _ => exact Or.inl ⟨rfl, rfl⟩
    | 48, _ => exact Or.inl ⟨rfl, rfl⟩
    | 49, _ => exact Or.inl ⟨rfl, rfl⟩
    | 50, _ => exact Or.inl ⟨rfl, rfl⟩
    | 51, _ => exact Or.inl ⟨rfl, rfl⟩
    | 52, _ => exact Or.inr (Or.inr (Or.inr ⟨rfl, Or.inr ⟨_, rfl⟩⟩))
    | 53, _ => exact Or.inr (Or.inl ⟨rfl, rfl⟩)
    | 54, _ => exact Or.inr (Or.inr (Or.inl ⟨rfl, rfl⟩))
    | 55, _ => exact Or.inr (Or.inr (Or.inr ⟨rfl, Or.inr ⟨_, rfl⟩⟩))
    | 56, _ => exact Or.inr (Or.inr (Or.inr ⟨rfl, Or.inr ⟨_, rfl⟩⟩))
    | 57, _ => exact Or.inr (Or.inr (Or.inr ⟨rfl, Or.inr ⟨_, rfl⟩⟩))
    | 58, _ => exact Or.inr (Or.inr (Or.inr ⟨rfl, Or.inr ⟨_, rfl⟩⟩))
    | 59, _ => exact Or.inr (Or.inr (Or.inl ⟨rfl, rfl⟩))
    | 60, _ => exact Or.inl ⟨rfl, rfl⟩
    | 61, _ => exact Or.inl ⟨rfl, rfl⟩
    | 62, _ => exact Or.inl ⟨rfl, rfl⟩
    | 63, _ => exact Or.inl ⟨rfl, rfl⟩
    | 64, _ => exact Or.inr (Or.inr (Or.inr ⟨rfl, Or.inr ⟨_, rfl⟩⟩))
    | 65, _ => exact Or.inr (Or.inr (Or.inr ⟨rfl, Or.inr ⟨_, rfl⟩⟩))
    | 66, _ => exact Or.inr (Or.inr (Or.inr ⟨rfl, Or.inr ⟨_, rfl⟩⟩))
    | 67, _ => exact Or.inr (Or.inr (Or.inr ⟨rfl, Or.inr ⟨_, rfl⟩⟩))
    | 68, _ => exact Or.inr (Or.inr (Or.inr ⟨rfl, Or.inr ⟨_, rfl⟩⟩))
    | 69, _ => exact Or.inr (Or.inr (Or.inr ⟨rfl, Or.inr ⟨_, rfl⟩⟩))
    | 70, _ => exact Or.inr (Or.inr (Or.inr ⟨rfl, Or.inr ⟨_, rfl⟩⟩))
    | 71, _ => exact Or.inr (Or.inr (Or.inr ⟨rfl, Or.inr ⟨_, rfl⟩⟩))
    | 72, _ => exact Or.inr (Or.inr (Or.inr ⟨rfl, Or.inr ⟨_, rfl⟩⟩))
    | 73, _ => exact Or.inr (Or.inr (Or.inr ⟨rfl, Or.inr ⟨_, rfl⟩⟩))
    | 74, _ => exact Or.inl ⟨rfl, rfl⟩
    | 75, _ => exact Or.inr (Or.inr (Or.inr ⟨rfl, Or.inr ⟨_, rfl⟩⟩))
    | j + 76, h => exact absurd h (by show ¬ j + 76 < 76; omega)
  | k + 13, h => exact absurd h (by omega)
theorem mm_AN_0_ok : ∀ e ∈ mm_AN_0, mm_okR e := List.forall_mem_cons.mpr ⟨⟨by decide, gw_1344, by decide +kernel⟩, List.forall_mem_cons.mpr ⟨⟨by decide, gw_1164, by decide +kernel⟩, List.forall_mem_cons.mpr ⟨⟨by decide, gw_1170, by decide +kernel⟩, fun _ h => absurd h List.not_mem_nil⟩⟩⟩
theorem mm_AN_ok : ∀ e ∈ mm_AN, mm_okR e := mm_AN_0_ok
theorem mm_ar_i : Cond.arrayClass .int ∈ mm_G := gw_1345
theorem mm_ar_j : Cond.arrayClass .long ∈ mm_G := gw_1346
theorem mm_ar_z : Cond.arrayClass .boolean ∈ mm_G := gw_1347
theorem mm_E1_ok : ∀ q ∈ mm_E1, Cond.castable q.1 q.2 ∈ lw_tbl := List.forall_mem_cons.mpr ⟨mm_ti_7 (i := 141) rfl, List.forall_mem_cons.mpr ⟨mm_ti_7 (i := 143) rfl, List.forall_mem_cons.mpr ⟨mm_ti_7 (i := 137) rfl, List.forall_mem_cons.mpr ⟨mm_ti_7 (i := 139) rfl, List.forall_mem_cons.mpr ⟨mm_ti_7 (i := 142) rfl, List.forall_mem_cons.mpr ⟨mm_ti_7 (i := 136) rfl, List.forall_mem_cons.mpr ⟨mm_ti_7 (i := 144) rfl, List.forall_mem_cons.mpr ⟨mm_ti_7 (i := 138) rfl, List.forall_mem_cons.mpr ⟨mm_ti_7 (i := 140) rfl, fun _ h => absurd h List.not_mem_nil⟩⟩⟩⟩⟩⟩⟩⟩⟩
theorem mm_E2_ok : ∀ q ∈ mm_E2, Cond.arrayOver (.object q) ∈ lw_tbl := List.forall_mem_cons.mpr ⟨mm_ti_1 (i := 90) rfl, List.forall_mem_cons.mpr ⟨mm_ti_1 (i := 178) rfl, List.forall_mem_cons.mpr ⟨mm_ti_1 (i := 200) rfl, fun _ h => absurd h List.not_mem_nil⟩⟩⟩
theorem mm_E3_ok : ∀ q ∈ mm_E3, Cond.methodLinkNest q.1 q.2.1 q.2.2.1 q.2.2.2 ∈ lw_tbl := List.forall_mem_cons.mpr ⟨mm_ti_1 (i := 181) rfl, List.forall_mem_cons.mpr ⟨mm_ti_1 (i := 202) rfl, fun _ h => absurd h List.not_mem_nil⟩⟩
theorem mm_IO_0_ok : ∀ e ∈ mm_IO_0, mm_okI e := List.forall_mem_cons.mpr ⟨⟨gw_1174, List.forall_mem_cons.mpr ⟨Or.inl rfl, List.forall_mem_cons.mpr ⟨Or.inr (by decide +kernel), fun _ h => absurd h List.not_mem_nil⟩⟩, by intro k h1 h2; simp only [mm_bk, Bool.or_eq_true, beq_iff_eq] at h1; rcases h1 with (((((h|h)|h)|h)|h)|h)|h <;> subst h <;> first | exact absurd (by decide) h2 | decide +kernel⟩, List.forall_mem_cons.mpr ⟨⟨gw_1176, List.forall_mem_cons.mpr ⟨Or.inr (by decide +kernel), List.forall_mem_cons.mpr ⟨Or.inl rfl, fun _ h => absurd h List.not_mem_nil⟩⟩, by intro k h1 h2; simp only [mm_bk, Bool.or_eq_true, beq_iff_eq] at h1; rcases h1 with (((((h|h)|h)|h)|h)|h)|h <;> subst h <;> first | exact absurd (by decide) h2 | decide +kernel⟩, List.forall_mem_cons.mpr ⟨⟨gw_1178, List.forall_mem_cons.mpr ⟨Or.inl rfl, List.forall_mem_cons.mpr ⟨Or.inr (by decide +kernel), fun _ h => absurd h List.not_mem_nil⟩⟩, by intro k h1 h2; simp only [mm_bk, Bool.or_eq_true, beq_iff_eq] at h1; rcases h1 with (((((h|h)|h)|h)|h)|h)|h <;> subst h <;> first | exact absurd (by decide) h2 | decide +kernel⟩, List.forall_mem_cons.mpr ⟨⟨gw_1180, List.forall_mem_cons.mpr ⟨Or.inl rfl, fun _ h => absurd h List.not_mem_nil⟩, by intro k h1 h2; simp only [mm_bk, Bool.or_eq_true, beq_iff_eq] at h1; rcases h1 with (((((h|h)|h)|h)|h)|h)|h <;> subst h <;> first | exact absurd (by decide) h2 | decide +kernel⟩, List.forall_mem_cons.mpr ⟨⟨gw_1182, List.forall_mem_cons.mpr ⟨Or.inl rfl, fun _ h => absurd h List.not_mem_nil⟩, by intro k h1 h2; simp only [mm_bk, Bool.or_eq_true, beq_iff_eq] at h1; rcases h1 with (((((h|h)|h)|h)|h)|h)|h <;> subst h <;> first | exact absurd (by decide) h2 | decide +kernel⟩, List.forall_mem_cons.mpr ⟨⟨gw_1184, List.forall_mem_cons.mpr ⟨Or.inl rfl, fun _ h => absurd h List.not_mem_nil⟩, by intro k h1 h2; simp only [mm_bk, Bool.or_eq_true, beq_iff_eq] at h1; rcases h1 with (((((h|h)|h)|h)|h)|h)|h <;> subst h <;> first | exact absurd (by decide) h2 | decide +kernel⟩, fun _ h => absurd h List.not_mem_nil⟩⟩⟩⟩⟩⟩
theorem mm_IO_ok : ∀ e ∈ mm_IO, mm_okI e := mm_IO_0_ok
theorem mm_cb : ∀ k, mm_bk k = true → mm_ck k = "PennyMore$Buyer" ∨ (mm_ck k, "PennyMore$Buyer") ∈ mm_E1 := by
  intro k h1; simp only [mm_bk, Bool.or_eq_true, beq_iff_eq] at h1
  rcases h1 with (((((h|h)|h)|h)|h)|h)|h <;> subst h
  · exact Or.inl rfl
  · exact Or.inr (by decide +kernel)
  · exact Or.inr (by decide +kernel)
  · exact Or.inr (by decide +kernel)
  · exact Or.inr (by decide +kernel)
  · exact Or.inr (by decide +kernel)
  · exact Or.inr (by decide +kernel)
theorem mm_LC_0_ok : ∀ e ∈ mm_LC_0, mm_okC e := List.forall_mem_cons.mpr ⟨Or.inr ⟨0, by decide, rfl, rfl, rfl⟩, List.forall_mem_cons.mpr ⟨Or.inr ⟨1, by decide, rfl, rfl, rfl⟩, List.forall_mem_cons.mpr ⟨Or.inr ⟨2, by decide, rfl, rfl, rfl⟩, List.forall_mem_cons.mpr ⟨Or.inr ⟨3, by decide, rfl, rfl, rfl⟩, List.forall_mem_cons.mpr ⟨Or.inr ⟨4, by decide, rfl, rfl, rfl⟩, List.forall_mem_cons.mpr ⟨Or.inr ⟨5, by decide, rfl, rfl, rfl⟩, List.forall_mem_cons.mpr ⟨Or.inr ⟨6, by decide, rfl, rfl, rfl⟩, List.forall_mem_cons.mpr ⟨Or.inr ⟨7, by decide, rfl, rfl, rfl⟩, List.forall_mem_cons.mpr ⟨Or.inr ⟨8, by decide, rfl, rfl, rfl⟩, List.forall_mem_cons.mpr ⟨Or.inr ⟨9, by decide, rfl, rfl, rfl⟩, List.forall_mem_cons.mpr ⟨Or.inr ⟨10, by decide, rfl, rfl, rfl⟩, List.forall_mem_cons.mpr ⟨Or.inr ⟨11, by decide, rfl, rfl, rfl⟩, List.forall_mem_cons.mpr ⟨Or.inl ⟨_, rfl, gw_1348⟩, List.forall_mem_cons.mpr ⟨Or.inl ⟨_, rfl, gw_1349⟩, List.forall_mem_cons.mpr ⟨Or.inl ⟨_, rfl, gw_1350⟩, List.forall_mem_cons.mpr ⟨Or.inl ⟨_, rfl, gw_1351⟩, fun _ h => absurd h List.not_mem_nil⟩⟩⟩⟩⟩⟩⟩⟩⟩⟩⟩⟩⟩⟩⟩⟩
theorem mm_LC_ok : ∀ e ∈ mm_LC, mm_okC e := mm_LC_0_ok
theorem mm_strw : ∀ k, k < 12 → Cond.stringRef "PennyMore$Reader" (mm_sx k).1 (mm_sx k).2.1 ∈ lw_tbl := by
  intro k hk
  match k, hk with
  | 0, _ => exact mm_ti_3 (i := 150) rfl
  | 1, _ => exact mm_ti_2 (i := 232) rfl
  | 2, _ => exact mm_ti_2 (i := 233) rfl
  | 3, _ => exact mm_ti_2 (i := 234) rfl
  | 4, _ => exact mm_ti_2 (i := 235) rfl
  | 5, _ => exact mm_ti_2 (i := 236) rfl
  | 6, _ => exact mm_ti_2 (i := 237) rfl
  | 7, _ => exact mm_ti_2 (i := 238) rfl
  | 8, _ => exact mm_ti_3 (i := 59) rfl
  | 9, _ => exact mm_ti_3 (i := 144) rfl
  | 10, _ => exact mm_ti_3 (i := 76) rfl
  | 11, _ => exact mm_ti_3 (i := 136) rfl
  | k + 12, h => exact absurd h (by omega)
theorem mm_L2_0_ok : ∀ e ∈ mm_L2_0, mm_ok2 e := List.forall_mem_cons.mpr ⟨gw_1352, List.forall_mem_cons.mpr ⟨gw_1353, List.forall_mem_cons.mpr ⟨gw_1354, List.forall_mem_cons.mpr ⟨gw_1355, List.forall_mem_cons.mpr ⟨gw_1356, fun _ h => absurd h List.not_mem_nil⟩⟩⟩⟩⟩
theorem mm_L2_ok : ∀ e ∈ mm_L2, mm_ok2 e := mm_L2_0_ok
theorem mm_gs1 : Cond.fieldLink (mm_cn 13) 38 "java/lang/String" "COMPACT_STRINGS" "Z" ∈ mm_G := gw_1357
theorem mm_gs2 : Cond.fieldLink (mm_cn 13) 1053 "jdk/internal/util/Preconditions" "SIOOBE_FORMATTER" "Ljava/util/function/BiFunction;" ∈ mm_G := gw_1358
theorem mm_gs3 : Cond.fieldLink (mm_cn 13) 9 "java/lang/String" "value" "[B" ∈ mm_G := gw_1359
theorem mm_gs4 : Cond.fieldLink (mm_cn 13) 15 "java/lang/String" "coder" "B" ∈ mm_G := gw_1360
theorem mm_gs5 : Cond.laysStatic "java/lang/String" "COMPACT_STRINGS" "Z" ∈ lw_tbl := mm_ti_3 (i := 16) rfl
theorem mm_gs6 : Cond.laysStatic "jdk/internal/util/Preconditions" "SIOOBE_FORMATTER" "Ljava/util/function/BiFunction;" ∈ lw_tbl := mm_ti_3 (i := 32) rfl
theorem mm_gi1 : Cond.initialized "java/lang/String" ∈ mm_G := gw_477
theorem mm_gi2 : Cond.initialized "jdk/internal/util/Preconditions" ∈ mm_G := gw_474
end
section
/-! ===== a small machine over numbered cells: what an instruction does, as a function ===== -/
abbrev mm_S : Type := (Nat → Nat → Int32) × (Nat → Nat → Int64) × (Nat → Nat → Option Nat) × (Nat → Nat) × (Nat → Nat) × Nat × Nat
def mm_M (S : mm_S) : Nat → Nat → Int32 := S.1
def mm_L (S : mm_S) : Nat → Nat → Int64 := S.2.1
def mm_R (S : mm_S) : Nat → Nat → Option Nat := S.2.2.1
def mm_K (S : mm_S) : Nat → Nat := S.2.2.2.1
def mm_N (S : mm_S) : Nat → Nat := S.2.2.2.2.1
def mm_n (S : mm_S) : Nat := S.2.2.2.2.2.1
def mm_z (S : mm_S) : Nat := S.2.2.2.2.2.2
def mm_u {α : Type} (f : Nat → α) (k : Nat) (x : α) : Nat → α := fun j => if j = k then x else f j
def mm_sM (S : mm_S) (a : Nat) (f : Nat → Int32) : mm_S := (mm_u S.1 a f, S.2)
def mm_sL (S : mm_S) (a : Nat) (f : Nat → Int64) : mm_S := (S.1, mm_u S.2.1 a f, S.2.2)
def mm_sR (S : mm_S) (a : Nat) (f : Nat → Option Nat) : mm_S := (S.1, S.2.1, mm_u S.2.2.1 a f, S.2.2.2)
/-- a new cell of a kind, of so many places -/
def mm_nw (S : mm_S) (k n : Nat) : mm_S := (mm_u S.1 S.2.2.2.2.2.1 (fun _ => 0), mm_u S.2.1 S.2.2.2.2.2.1 (fun _ => 0), mm_u S.2.2.1 S.2.2.2.2.2.1 (fun _ => none), mm_u S.2.2.2.1 S.2.2.2.2.2.1 k, mm_u S.2.2.2.2.1 S.2.2.2.2.2.1 n, S.2.2.2.2.2.1 + 1, S.2.2.2.2.2.2 + n)
/-- the script's number; a String constant's is 1000000 + 2k, its bytes' the next; the formatter is no number -/
abbrev mm_SC : Nat := 3000000
abbrev mm_FM : Value := .retAddr 0
abbrev mm_Act : Type := Option ((Nat × List Value × List Value × mm_S) ⊕ ((Nat × List Value × List Value × mm_S) ⊕ (Option Value × mm_S)))
abbrev mm_Res : Type := Option (Option Value × mm_S)
def mm_go (pc : Nat) (ls st : List Value) (S : mm_S) : mm_Act := some (.inl (pc, ls, st, S))
def mm_ca (y : Nat) (as st : List Value) (S : mm_S) : mm_Act := some (.inr (.inl (y, as, st, S)))
def mm_rt (v : Option Value) (S : mm_S) : mm_Act := some (.inr (.inr (v, S)))
def mm_rv : Option Nat → Value
  | some a => .ref a
  | none => .null
def mm_lg (ls : List Value) (k : Nat) : Value := ls.getD k .null
def mm_k1 (v : Value) : Value := if v.category = 2 then .null else v
def mm_kl (ls : List Value) : Nat → List Value
  | 0 => ls
  | k + 1 => ls.set k (mm_k1 (mm_lg ls k))
def mm_l1 (ls : List Value) (k : Nat) (v : Value) : List Value := (mm_kl ls k).set k v
def mm_l2 (ls : List Value) (k : Nat) (v : Value) : List Value := ((mm_kl ls k).set k v).set (k + 1) .null
def mm_i1 (st : List Value) (f : Int32 → List Value → mm_Act) : mm_Act := match st with
  | .int x :: r => f x r
  | _ => none
def mm_i2 (st : List Value) (f : Int32 → Int32 → List Value → mm_Act) : mm_Act := match st with
  | .int y :: .int x :: r => f x y r
  | _ => none
def mm_j1 (st : List Value) (f : Int64 → List Value → mm_Act) : mm_Act := match st with
  | .long x :: r => f x r
  | _ => none
def mm_j2 (st : List Value) (f : Int64 → Int64 → List Value → mm_Act) : mm_Act := match st with
  | .long y :: .long x :: r => f x y r
  | _ => none
def mm_r1 (st : List Value) (f : Nat → List Value → mm_Act) : mm_Act := match st with
  | .ref a :: r => f a r
  | _ => none
def mm_pr (st : List Value) (f : Value → Nat → List Value → mm_Act) : mm_Act := match st with
  | v :: .ref a :: r => f v a r
  | _ => none
def mm_v1 (st : List Value) (f : Value → List Value → mm_Act) : mm_Act := match st with
  | v :: r => f v r
  | _ => none
def mm_gd (b : Bool) (A : mm_Act) : mm_Act := if b = true then A else none
def mm_jp (pc : Nat) (off : Int) (ls st : List Value) (S : mm_S) : mm_Act := if (pc : Int) + off < 0 then none else mm_go ((pc : Int) + off).toNat ls st S
def mm_cj (b : Bool) (pc : Nat) (off : Int) (ls st : List Value) (S : mm_S) : mm_Act := if (pc : Int) + off < 0 then none else if b = true then mm_go ((pc : Int) + off).toNat ls st S else mm_go (pc + 3) ls st S
def mm_c1 (c : ClassFile.Cond) (x : Int32) : Bool := match c with
  | .eq => decide (x = 0)
  | .ne => !decide (x = 0)
  | .lt => decide (x < 0)
  | .ge => decide (0 ≤ x)
  | .gt => decide (0 < x)
  | .le => decide (x ≤ 0)
def mm_c2 (c : ClassFile.Cond) (x y : Int32) : Bool := match c with
  | .eq => decide (x = y)
  | .ne => !decide (x = y)
  | .lt => decide (x < y)
  | .ge => decide (y ≤ x)
  | .gt => decide (y < x)
  | .le => decide (x ≤ y)
def mm_inb (i : Int32) (n : Nat) : Bool := !(decide (i < 0) || decide (n ≤ i.toNatClampNeg))
def mm_cs : List Value → Nat
  | [] => 0
  | v :: l => v.category + mm_cs l
def mm_obj (S : mm_S) (a f : Nat) : Bool := decide (a < mm_n S) && decide (mm_K S a < 13) && mm_fam f (mm_K S a)
def mm_arr (S : mm_S) (a k : Nat) : Bool := decide (a < mm_n S) && decide (mm_K S a = k)
def mm_isS (a : Nat) : Bool := decide (1000000 ≤ a) && decide (a < 1000000 + 2 * 12) && decide (a % 2 = 0)
def mm_isB (a : Nat) : Bool := decide (1000000 ≤ a) && decide (a < 1000000 + 2 * 12) && decide (a % 2 = 1)
def mm_by (a : Nat) : List Int32 := (mm_sx (a % 1000000 / 2)).2.2
/-- the kind of a receiver -/
def mm_rk (S : mm_S) (a : Nat) : Nat := if a < mm_n S then (if mm_K S a < 13 then mm_K S a else 99) else if mm_isS a = true then 100 else 99
def mm_lu : List (Nat × Nat) → Nat → Option Nat
  | [], _ => none
  | e :: l, k => if e.1 == k then some e.2 else mm_lu l k
def mm_gf (S : mm_S) (fam k tg a : Nat) : Option Value := if mm_obj S a fam = true then (if tg = 1 then some (.long (mm_L S a k)) else if tg = 2 then some (mm_rv (mm_R S a k)) else some (.int (mm_M S a k))) else none
def mm_pf (S : mm_S) (fam k tg a : Nat) (v : Value) : Option mm_S := if mm_obj S a fam = true then (match tg, v with
    | 0, .int x => some (mm_sM S a (mm_u (mm_M S a) k x))
    | 3, .int x => if x = 0 ∨ x = 1 then some (mm_sM S a (mm_u (mm_M S a) k x)) else none
    | 1, .long x => some (mm_sL S a (mm_u (mm_L S a) k x))
    | 2, .ref b => if b < mm_n S then some (mm_sR S a (mm_u (mm_R S a) k (some b))) else none
    | _, _ => none) else none
def mm_cpOk (sp dp n : Int32) (n0 n1 : Nat) : Bool := !decide (sp < 0) && !decide (dp < 0) && !decide (n < 0) && decide (sp.toNatClampNeg + n.toNatClampNeg ≤ n0) && decide (dp.toNatClampNeg + n.toNatClampNeg ≤ n1)
def mm_ire (st : List Value) (rt : Option FieldType) (S : mm_S) : mm_Act := match st, rt with
  | [.int x], some ty => if narrow ty (.int x) = .int x ∧ ty ≠ .long then mm_rt (some (.int x)) S else none
  | _, _ => none
def mm_lre (st : List Value) (rt : Option FieldType) (S : mm_S) : mm_Act := match st, rt with
  | [.long x], some .long => mm_rt (some (.long x)) S
  | _, _ => none
def mm_are (st : List Value) (rt : Option FieldType) (S : mm_S) : mm_Act := match st, rt with
  | [.ref a], some (.object _) => mm_rt (some (.ref a)) S
  | _, _ => none
def mm_vre (st : List Value) (rt : Option FieldType) (S : mm_S) : mm_Act := match st, rt with
  | [], none => mm_rt none S
  | _, _ => none
/-- what one instruction does, at depth d, in the method t -/
def mm_st (d : Nat) (t : mm_mT) (pc : Nat) (ls st : List Value) (S : mm_S) : Instr → mm_Act
  | .iconst n => mm_go (pc + 1) ls (.int (Int32.ofInt n) :: st) S
  | .bipush n => mm_go (pc + 2) ls (.int (Int8.ofInt n).toInt32 :: st) S
  | .sipush n => mm_go (pc + 3) ls (.int (Int16.ofInt n).toInt32 :: st) S
  | .lconst n => mm_go (pc + 1) ls (.long (Int64.ofNat (n : Nat)) :: st) S
  | .ldc i => match mm_fd mm_LC t.2.2.2.2 i with
    | some v => mm_go (pc + 2) ls (v :: st) S
    | none => none
  | .ldc_w i => match mm_fd mm_LC t.2.2.2.2 i with
    | some (.int v) => mm_go (pc + 3) ls (.int v :: st) S
    | _ => none
  | .ldc2_w i => match mm_fd mm_L2 t.2.2.2.2 i with
    | some v => mm_go (pc + 3) ls (.long v :: st) S
    | none => none
  | .iload_n k => mm_i1 [mm_lg ls k] fun x _ => mm_go (pc + 1) ls (.int x :: st) S
  | .iload k => mm_i1 [mm_lg ls k] fun x _ => mm_go (pc + 2) ls (.int x :: st) S
  | .lload_n k => mm_j1 [mm_lg ls k] fun x _ => mm_go (pc + 1) ls (.long x :: st) S
  | .lload k => mm_j1 [mm_lg ls k] fun x _ => mm_go (pc + 2) ls (.long x :: st) S
  | .aload_n k => mm_r1 [mm_lg ls k] fun x _ => mm_go (pc + 1) ls (.ref x :: st) S
  | .aload k => mm_r1 [mm_lg ls k] fun x _ => mm_go (pc + 2) ls (.ref x :: st) S
  | .istore_n k => mm_i1 st fun x r => mm_gd (decide ((k : Nat) < ls.length)) (mm_go (pc + 1) (mm_l1 ls k (.int x)) r S)
  | .istore k => mm_i1 st fun x r => mm_gd (decide (k < ls.length)) (mm_go (pc + 2) (mm_l1 ls k (.int x)) r S)
  | .lstore_n k => mm_j1 st fun x r => mm_gd (decide ((k : Nat) + 1 < ls.length)) (mm_go (pc + 1) (mm_l2 ls k (.long x)) r S)
  | .lstore k => mm_j1 st fun x r => mm_gd (decide (k + 1 < ls.length)) (mm_go (pc + 2) (mm_l2 ls k (.long x)) r S)
  | .astore_n k => mm_r1 st fun x r => mm_gd (decide ((k : Nat) < ls.length)) (mm_go (pc + 1) (mm_l1 ls k (.ref x)) r S)
  | .astore k => mm_r1 st fun x r => mm_gd (decide (k < ls.length)) (mm_go (pc + 2) (mm_l1 ls k (.ref x)) r S)
  | .iinc k n => mm_i1 [mm_lg ls k] fun x _ => mm_gd (decide (k < ls.length)) (mm_go (pc + 3) (mm_l1 ls k (.int (x + Int32.ofInt n))) st S)
  | .iadd => mm_i2 st fun x y r => mm_go (pc + 1) ls (.int (x + y) :: r) S
  | .isub => mm_i2 st fun x y r => mm_go (pc + 1) ls (.int (x - y) :: r) S
  | .imul => mm_i2 st fun x y r => mm_go (pc + 1) ls (.int (x * y) :: r) S
  | .iand => mm_i2 st fun x y r => mm_go (pc + 1) ls (.int (x &&& y) :: r) S
  | .ior => mm_i2 st fun x y r => mm_go (pc + 1) ls (.int (x ||| y) :: r) S
  | .ixor => mm_i2 st fun x y r => mm_go (pc + 1) ls (.int (x ^^^ y) :: r) S
  | .idiv => mm_i2 st fun x y r => mm_gd (!decide (y = 0)) (mm_go (pc + 1) ls (.int (x / y) :: r) S)
  | .irem => mm_i2 st fun x y r => mm_gd (!decide (y = 0)) (mm_go (pc + 1) ls (.int (x - x / y * y) :: r) S)
  | .ishl => mm_i2 st fun x y r => mm_go (pc + 1) ls (.int (x <<< (y &&& 31)) :: r) S
  | .ishr => mm_i2 st fun x y r => mm_go (pc + 1) ls (.int (x >>> (y &&& 31)) :: r) S
  | .iushr => mm_i2 st fun x y r => mm_go (pc + 1) ls (.int (x.toUInt32 >>> (y.toUInt32 &&& Int32.toUInt32 31)).toInt32 :: r) S
  | .ineg => mm_i1 st fun x r => mm_go (pc + 1) ls (.int (-x) :: r) S
  | .i2l => mm_i1 st fun x r => mm_go (pc + 1) ls (.long x.toInt64 :: r) S
  | .i2b => mm_i1 st fun x r => mm_go (pc + 1) ls (.int x.toInt8.toInt32 :: r) S
  | .i2s => mm_i1 st fun x r => mm_go (pc + 1) ls (.int x.toInt16.toInt32 :: r) S
  | .i2c => mm_i1 st fun x r => mm_go (pc + 1) ls (.int (x.toUInt32 % 65536).toInt32 :: r) S
  | .l2i => mm_j1 st fun x r => mm_go (pc + 1) ls (.int x.toInt32 :: r) S
  | .ladd => mm_j2 st fun x y r => mm_go (pc + 1) ls (.long (x + y) :: r) S
  | .lsub => mm_j2 st fun x y r => mm_go (pc + 1) ls (.long (x - y) :: r) S
  | .lmul => mm_j2 st fun x y r => mm_go (pc + 1) ls (.long (x * y) :: r) S
  | .land => mm_j2 st fun x y r => mm_go (pc + 1) ls (.long (x &&& y) :: r) S
  | .lor => mm_j2 st fun x y r => mm_go (pc + 1) ls (.long (x ||| y) :: r) S
  | .ldiv => mm_j2 st fun x y r => mm_gd (!decide (y = 0)) (mm_go (pc + 1) ls (.long (x / y) :: r) S)
  | .lrem => mm_j2 st fun x y r => mm_gd (!decide (y = 0)) (mm_go (pc + 1) ls (.long (x - x / y * y) :: r) S)
  | .lshl => mm_i1 st fun y r => mm_j1 r fun x r => mm_go (pc + 1) ls (.long (x <<< (y.toInt64 &&& 63)) :: r) S
  | .lcmp => mm_j2 st fun x y r => mm_go (pc + 1) ls (.int (lg_cmp x y) :: r) S
  | .dup => match st with
    | v :: r => mm_gd (decide (v.category = 1)) (mm_go (pc + 1) ls (v :: v :: r) S)
    | _ => none
  | .pop => match st with
    | v :: r => mm_gd (decide (v.category = 1)) (mm_go (pc + 1) ls r S)
    | _ => none
  | .dup2 => match st with
    | .long x :: r => mm_go (pc + 1) ls (.long x :: .long x :: r) S
    | v :: w :: r => mm_gd (decide (v.category = 1) && decide (w.category = 1)) (mm_go (pc + 1) ls (v :: w :: v :: w :: r) S)
    | _ => none
  | .goto off => mm_jp pc off ls st S
  | .ifCond c off => mm_i1 st fun x r => mm_cj (mm_c1 c x) pc off ls r S
  | .if_icmp c off => mm_i2 st fun x y r => mm_cj (mm_c2 c x y) pc off ls r S
  | .tableswitch df lo hi offs => mm_i1 st fun x r => if x.toInt < lo ∨ hi < x.toInt then mm_jp pc df ls r S else match offs[(x.toInt - lo).toNat]? with
    | some off => mm_jp pc off ls r S
    | none => none
  | .lookupswitch df ps => mm_i1 st fun x r => mm_gd ((ps.toList.zip (ps.toList.drop 1)).all (fun (a, next) => a.1 < next.1)) (mm_jp pc (Op.lookupswitch.offset ps.toList df x.toInt) ls r S)
  | .getstatic i => if t.2.2.2.2 = 13 ∧ i = 38 then mm_go (pc + 3) ls (.int 1 :: st) S else if t.2.2.2.2 = 13 ∧ i = 1053 then mm_go (pc + 3) ls (mm_FM :: st) S else none
  | .getfield i => mm_r1 st fun a r => if t.2.2.2.2 = 13 then (if mm_isS a = true then (if i = 9 then mm_go (pc + 3) ls (.ref (a + 1) :: r) S else if i = 15 then mm_go (pc + 3) ls (.int 0 :: r) S else none) else none) else match mm_fd mm_FL t.2.2.2.2 i with
    | some e => match mm_gf S e.1 e.2.1 e.2.2.1 a with
      | some v => mm_go (pc + 3) ls (v :: r) S
      | none => none
    | none => none
  | .putfield i => mm_pr st fun v a r => match mm_fd mm_FL t.2.2.2.2 i with
      | some e => mm_gd (decide (e.2.2.2 = 0) || (decide (t.1.name = "<init>") && decide ((mm_T e.1 e.2.1).1 = t.1.cls))) (match mm_pf S e.1 e.2.1 e.2.2.1 a v with
        | some S1 => mm_go (pc + 3) ls r S1
        | none => none)
      | none => none
  | .iaload => mm_i1 st fun i r => mm_r1 r fun a r => if mm_arr S a 13 = true then mm_gd (mm_inb i (mm_N S a)) (mm_go (pc + 1) ls (.int (mm_M S a i.toNatClampNeg) :: r) S) else mm_gd (decide (a = mm_SC) && decide (t.2.2.2.2 = 17) && mm_inb i (mm_N S a)) (mm_go (pc + 1) ls (.int (mm_M S a i.toNatClampNeg) :: r) S)
  | .laload => mm_i1 st fun i r => mm_r1 r fun a r => mm_gd (mm_arr S a 14 && mm_inb i (mm_N S a)) (mm_go (pc + 1) ls (.long (mm_L S a i.toNatClampNeg) :: r) S)
  | .baload => mm_i1 st fun i r => mm_r1 r fun a r => if mm_arr S a 15 = true then mm_gd (mm_inb i (mm_N S a)) (mm_go (pc + 1) ls (.int (mm_M S a i.toNatClampNeg) :: r) S) else mm_gd (mm_isB a && mm_inb i (mm_by a).length) (mm_go (pc + 1) ls (.int ((mm_by a).getD i.toNatClampNeg 0) :: r) S)
  | .aaload => mm_i1 st fun i r => mm_r1 r fun a r => mm_gd ((mm_arr S a 16 || mm_arr S a 17 || mm_arr S a 18) && mm_inb i (mm_N S a)) (mm_go (pc + 1) ls (mm_rv (mm_R S a i.toNatClampNeg) :: r) S)
  | .iastore => mm_i2 st fun i x r => mm_r1 r fun a r => mm_gd (mm_arr S a 13 && mm_inb i (mm_N S a)) (mm_go (pc + 1) ls r (mm_sM S a (mm_u (mm_M S a) i.toNatClampNeg x)))
  | .lastore => mm_j1 st fun x r => mm_i1 r fun i r => mm_r1 r fun a r => mm_gd (mm_arr S a 14 && mm_inb i (mm_N S a)) (mm_go (pc + 1) ls r (mm_sL S a (mm_u (mm_L S a) i.toNatClampNeg x)))
  | .bastore => mm_i2 st fun i x r => mm_r1 r fun a r => mm_gd (mm_arr S a 15 && mm_inb i (mm_N S a)) (mm_go (pc + 1) ls r (mm_sM S a (mm_u (mm_M S a) i.toNatClampNeg (vp_nar .boolean x))))
  | .aastore => mm_v1 st fun v r => mm_i1 r fun i r => mm_r1 r fun a r => mm_gd ((mm_arr S a 16 || mm_arr S a 17 || mm_arr S a 18) && mm_inb i (mm_N S a)) (match v with
      | .null => mm_go (pc + 1) ls r (mm_sR S a (mm_u (mm_R S a) i.toNatClampNeg none))
      | .ref b => mm_gd (mm_obj S b (if mm_K S a = 16 then 0 else if mm_K S a = 17 then 6 else 8)) (mm_go (pc + 1) ls r (mm_sR S a (mm_u (mm_R S a) i.toNatClampNeg (some b))))
      | _ => none)
  | .arraylength => mm_r1 st fun a r => if (decide (a < mm_n S) && decide (13 ≤ mm_K S a) && decide (mm_K S a < 19)) = true then mm_go (pc + 1) ls (.int (Int32.ofNat (mm_N S a)) :: r) S else if mm_isB a = true then mm_go (pc + 1) ls (.int (Int32.ofNat (mm_by a).length) :: r) S else mm_gd (decide (a = mm_SC) && decide (t.2.2.2.2 = 17)) (mm_go (pc + 1) ls (.int (Int32.ofNat (mm_N S a)) :: r) S)
  | .newarray ty => mm_i1 st fun n r => mm_gd (!decide (n < 0) && decide (n.toNatClampNeg ≤ 1000) && decide (mm_n S < 1000000)) (match ty with
    | .int => mm_go (pc + 2) ls (.ref (mm_n S) :: r) (mm_nw S 13 n.toNatClampNeg)
    | .long => mm_go (pc + 2) ls (.ref (mm_n S) :: r) (mm_nw S 14 n.toNatClampNeg)
    | .boolean => mm_go (pc + 2) ls (.ref (mm_n S) :: r) (mm_nw S 15 n.toNatClampNeg)
    | _ => none)
  | .anewarray i => mm_i1 st fun n r => mm_gd (!decide (n < 0) && decide (n.toNatClampNeg ≤ 1000) && decide (mm_n S < 1000000)) (match mm_fd mm_AN t.2.2.2.2 i with
    | some k => mm_go (pc + 3) ls (.ref (mm_n S) :: r) (mm_nw S k n.toNatClampNeg)
    | none => none)
  | .new i => mm_gd (decide (mm_n S < 1000000)) (match mm_fd mm_NW t.2.2.2.2 i with
    | some k => mm_go (pc + 3) ls (.ref (mm_n S) :: st) (mm_nw S k (mm_NF k))
    | none => none)
  | .instanceof i => mm_r1 st fun a r => match mm_fd mm_IO t.2.2.2.2 i with
    | some e => mm_gd (mm_obj S a 0) (mm_go (pc + 3) ls (.int (if mm_K S a ∈ e.2 then 1 else 0) :: r) S)
    | none => none
  | .invokestatic i => match mm_fd mm_AC t.2.2.2.2 i with
    | some _ => mm_i2 st fun dp n r => mm_r1 r fun a r => mm_i1 r fun sp r => mm_r1 r fun a0 r => mm_gd (decide (1 ≤ d) && decide (mm_cs r ≤ 8)) (if mm_arr S a0 13 && mm_arr S a 13 && mm_cpOk sp dp n (mm_N S a0) (mm_N S a) then mm_go (pc + 3) ls r (mm_sM S a (va_cpy (mm_M S a0) (mm_M S a) sp.toNatClampNeg dp.toNatClampNeg n.toNatClampNeg)) else if mm_arr S a0 14 && mm_arr S a 14 && mm_cpOk sp dp n (mm_N S a0) (mm_N S a) then mm_go (pc + 3) ls r (mm_sL S a (va_cpy (mm_L S a0) (mm_L S a) sp.toNatClampNeg dp.toNatClampNeg n.toNatClampNeg)) else none)
    | none => match mm_fd mm_MX t.2.2.2.2 i with
     | some k => mm_i2 st fun x y r => mm_gd (decide (1 ≤ d) && decide (mm_cs r ≤ 8)) (mm_go (pc + 3) ls (.int (if k = 0 then (if y < x then y else x) else (if x < y then y else x)) :: r) S)
     | none => match mm_fd mm_ST t.2.2.2.2 i with
      | some e => mm_gd (decide (e.1 ≤ st.length) && decide (mm_cs (st.drop e.1) ≤ 8)) (mm_ca e.2 (st.take e.1).reverse (st.drop e.1) S)
      | none => none
  | .invokevirtual i => match mm_fd mm_VT t.2.2.2.2 i with
    | some e => mm_gd (decide (e.1 ≤ st.length)) (mm_r1 (st.drop e.1) fun a r => mm_gd (decide (mm_cs r ≤ 8)) (match mm_lu e.2 (mm_rk S a) with
      | some y => mm_ca y (.ref a :: (st.take e.1).reverse) r S
      | none => none))
    | none => none
  | .invokespecial i => match mm_fd mm_OI t.2.2.2.2 i with
    | some _ => mm_r1 st fun a r => mm_gd (decide (1 ≤ d) && decide (mm_cs r ≤ 8)) (mm_go (pc + 3) ls r S)
    | none => match mm_fd mm_SP t.2.2.2.2 i with
      | some e => mm_gd (decide (e.1 ≤ st.length)) (mm_r1 (st.drop e.1) fun a r => mm_gd (decide (mm_cs r ≤ 8) && decide (a < mm_n S) && decide (mm_K S a < 13)) (mm_ca e.2.1 (.ref a :: (st.take e.1).reverse) r S))
      | none => none
  | .ireturn => mm_ire st t.2.2.2.1 S
  | .lreturn => mm_lre st t.2.2.2.1 S
  | .areturn => mm_are st t.2.2.2.1 S
  | .return_ => mm_vre st t.2.2.2.1 S
  | _ => none
/-- how long an instruction is (0: a switch) -/
def mm_ln : Instr → Nat
  | .bipush _ | .ldc _ | .iload _ | .lload _ | .aload _ | .istore _ | .lstore _ | .astore _ | .newarray _ => 2
  | .sipush _ | .ldc_w _ | .ldc2_w _ | .iinc _ _ | .goto _ | .ifCond _ _ | .if_icmp _ _ | .getstatic _ | .getfield _ | .putfield _ | .anewarray _ | .new _ | .instanceof _ | .invokestatic _ | .invokevirtual _ | .invokespecial _ => 3
  | .tableswitch _ _ _ _ | .lookupswitch _ _ => 0
  | _ => 1
def mm_lk (i : Instr) (len : Nat) : Bool := decide (mm_ln i = 0) || decide (mm_ln i = len)
def mm_as : List Value → List Value
  | [] => []
  | v :: l => if v.category = 2 then v :: .null :: mm_as l else v :: mm_as l
def mm_en (n : Nat) (as : List Value) : List Value := mm_as as ++ List.replicate (n - (mm_as as).length) .null
def mm_iv (i : Instr) : Bool := match i with
  | .invokestatic _ | .invokevirtual _ | .invokespecial _ => true
  | _ => false
def mm_ir (i : Instr) : Bool := match i with
  | .ireturn | .lreturn | .areturn | .return_ => true
  | _ => false
/-- no step takes cells away; a call is a call, an end is an end -/
def mm_mo (i : Instr) (S : mm_S) (a : mm_Act) : Bool := match a with
  | none => true
  | some (.inl q) => decide (mm_n S ≤ mm_n q.2.2.2) && decide (mm_z S ≤ mm_z q.2.2.2)
  | some (.inr (.inl q)) => decide (mm_n S ≤ mm_n q.2.2.2) && decide (mm_z S ≤ mm_z q.2.2.2) && mm_iv i
  | some (.inr (.inr r)) => decide (mm_n S ≤ mm_n r.2) && decide (mm_z S ≤ mm_z r.2) && mm_ir i
def mm_run : Nat → Nat → Nat → Nat → List Value → List Value → mm_S → mm_Res
  | 0, _, _, _, _, _, _ => none
  | f + 1, d, y, pc, ls, st, S => match mm_mt[y]? with
    | none => none
    | some t => match decode t.2.1 pc with
      | .error _ => none
      | .ok (i, len) => if (mm_lk i len && mm_mo i S (mm_st d t pc ls st S i)) = true then (match mm_st d t pc ls st S i with
        | none => none
        | some (.inl q) => mm_run f d y q.1 q.2.1 q.2.2.1 q.2.2.2
        | some (.inr (.inl q)) => match d with
          | 0 => none
          | d + 1 => if q.1 < mm_nc then (match mm_mt[q.1]? with
            | none => none
            | some u => if (mm_as q.2.1).length ≤ u.2.2.1 then (match mm_run f d q.1 0 (mm_en u.2.2.1 q.2.1) [] q.2.2.2 with
              | none => none
              | some r => mm_run f (d + 1) y (pc + 3) ls (r.1.toList ++ q.2.2.1) r.2) else none) else none
        | some (.inr (.inr r)) => some r) else none
theorem mm_run_succ (f : Nat) : ∀ (d y pc : Nat) (ls st : List Value) (S : mm_S) (r : Option Value × mm_S), mm_run f d y pc ls st S = some r → mm_run (f + 1) d y pc ls st S = some r := by
  induction f with
  | zero => intro d y pc ls st S r h; cases h
  | succ f ih =>
    intro d y pc ls st S r h
    unfold mm_run at h ⊢
    cases ht : mm_mt[y]? with
    | none => rw [ht] at h; cases h
    | some t =>
      simp only [ht] at h ⊢
      cases hd : decode t.2.1 pc with
      | error x => rw [hd] at h; cases h
      | ok il =>
        obtain ⟨i, len⟩ := il
        simp only [hd] at h ⊢
        by_cases hl : (mm_lk i len && mm_mo i S (mm_st d t pc ls st S i)) = true
        · simp only [if_pos hl] at h ⊢
          cases ha : mm_st d t pc ls st S i with
          | none => rw [ha] at h; cases h
          | some A =>
            rcases A with q | q | q
            · simp only [ha] at h ⊢
              exact ih _ _ _ _ _ _ _ h
            · simp only [ha] at h ⊢
              cases d with
              | zero => cases h
              | succ d =>
                simp only at h ⊢
                by_cases hq : q.1 < mm_nc
                · simp only [if_pos hq] at h ⊢
                  cases hu : mm_mt[q.1]? with
                  | none => rw [hu] at h; cases h
                  | some u =>
                    simp only [hu] at h ⊢
                    by_cases hf : (mm_as q.2.1).length ≤ u.2.2.1
                    · simp only [if_pos hf] at h ⊢
                      cases hr : mm_run f d q.1 0 (mm_en u.2.2.1 q.2.1) [] q.2.2.2 with
                      | none => rw [hr] at h; cases h
                      | some z =>
                        rw [hr] at h
                        rw [ih _ _ _ _ _ _ _ hr]
                        exact ih _ _ _ _ _ _ _ h
                    · rw [if_neg hf] at h; cases h
                · rw [if_neg hq] at h; cases h
            · simp only [ha] at h ⊢
              exact h
        · rw [if_neg hl] at h; cases h
theorem mm_run_le {f g : Nat} (hfg : f ≤ g) {d y pc : Nat} {ls st : List Value} {S : mm_S} {r : Option Value × mm_S} (h : mm_run f d y pc ls st S = some r) : mm_run g d y pc ls st S = some r := by
  induction hfg with
  | refl => exact h
  | step _ ih => exact mm_run_succ _ _ _ _ _ _ _ _ ih
theorem mm_run_det {f g d y pc : Nat} {ls st : List Value} {S : mm_S} {r q : Option Value × mm_S} (h : mm_run f d y pc ls st S = some r) (h2 : mm_run g d y pc ls st S = some q) : r = q := by
  have a := mm_run_le (Nat.le_max_left f g) h
  have b := mm_run_le (Nat.le_max_right f g) h2
  exact Option.some.inj (a.symm.trans b)
/-- what a run comes to, however long it is -/
noncomputable def mm_ex (d y pc : Nat) (ls st : List Value) (S : mm_S) : mm_Res := by
  classical exact if h : ∃ r, ∃ f, mm_run f d y pc ls st S = some r then some (Classical.choose h) else none
theorem mm_ex_iff {d y pc : Nat} {ls st : List Value} {S : mm_S} {r : Option Value × mm_S} : mm_ex d y pc ls st S = some r ↔ ∃ f, mm_run f d y pc ls st S = some r := by
  classical
  unfold mm_ex
  constructor
  · intro h
    split at h
    · rename_i hx
      obtain ⟨f, hf⟩ := Classical.choose_spec hx
      exact ⟨f, by rw [hf]; exact h⟩
    · cases h
  · rintro ⟨f, hf⟩
    have hx : ∃ r, ∃ f, mm_run f d y pc ls st S = some r := ⟨r, f, hf⟩
    rw [dif_pos hx]
    obtain ⟨g, hg⟩ := Classical.choose_spec hx
    exact congrArg some (mm_run_det hg hf)
noncomputable def mm_cl (d y : Nat) (as : List Value) (S : mm_S) : mm_Res := match mm_mt[y]? with
  | none => none
  | some u => if (mm_as as).length ≤ u.2.2.1 then mm_ex d y 0 (mm_en u.2.2.1 as) [] S else none
def mm_bd (x : mm_Res) (k : Option Value → mm_S → mm_Res) : mm_Res := match x with
  | none => none
  | some r => k r.1 r.2
section MMX
variable {d y pc len : Nat} {ls st : List Value} {S : mm_S} {t : mm_mT} {i : Instr}
theorem mm_run_eq (ht : mm_mt[y]? = some t) (hd : decode t.2.1 pc = .ok (i, len)) (hl : (mm_lk i len && mm_mo i S (mm_st d t pc ls st S i)) = true) (f : Nat) : mm_run (f + 1) d y pc ls st S = (match mm_st d t pc ls st S i with
        | none => none
        | some (.inl q) => mm_run f d y q.1 q.2.1 q.2.2.1 q.2.2.2
        | some (.inr (.inl q)) => match (generalizing := false) d with
          | 0 => none
          | d + 1 => if q.1 < mm_nc then (match mm_mt[q.1]? with
            | none => none
            | some u => if (mm_as q.2.1).length ≤ u.2.2.1 then (match mm_run f d q.1 0 (mm_en u.2.2.1 q.2.1) [] q.2.2.2 with
              | none => none
              | some r => mm_run f (d + 1) y (pc + 3) ls (r.1.toList ++ q.2.2.1) r.2) else none) else none
        | some (.inr (.inr r)) => some r) := by
  conv => lhs; unfold mm_run
  simp only [ht, hd, if_pos hl]
theorem mm_ex_go (ht : mm_mt[y]? = some t) (hd : decode t.2.1 pc = .ok (i, len)) (hl : mm_lk i len = true) {pc' : Nat} {ls' st' : List Value} {S' : mm_S} (hs : mm_st d t pc ls st S i = mm_go pc' ls' st' S') (hm : mm_n S ≤ mm_n S' ∧ mm_z S ≤ mm_z S') : mm_ex d y pc ls st S = mm_ex d y pc' ls' st' S' := by
  have hl : (mm_lk i len && mm_mo i S (mm_st d t pc ls st S i)) = true := by
    rw [hs, hl]
    simp [mm_mo, mm_go, hm]
  apply Option.ext
  intro r
  rw [mm_ex_iff, mm_ex_iff]
  constructor
  · rintro ⟨f, h⟩
    cases f with
    | zero => cases h
    | succ f =>
      rw [mm_run_eq ht hd hl, hs] at h
      exact ⟨f, h⟩
  · rintro ⟨f, h⟩
    refine ⟨f + 1, ?_⟩
    rw [mm_run_eq ht hd hl, hs]
    exact h
theorem mm_ex_rt (ht : mm_mt[y]? = some t) (hd : decode t.2.1 pc = .ok (i, len)) (hl : mm_lk i len = true) {v : Option Value} {S' : mm_S} (hs : mm_st d t pc ls st S i = mm_rt v S') (hi : mm_ir i = true) (hm : mm_n S ≤ mm_n S' ∧ mm_z S ≤ mm_z S') : mm_ex d y pc ls st S = some (v, S') := by
  have hl : (mm_lk i len && mm_mo i S (mm_st d t pc ls st S i)) = true := by
    rw [hs, hl]
    simp [mm_mo, mm_rt, hm, hi]
  rw [mm_ex_iff]
  refine ⟨1, ?_⟩
  rw [mm_run_eq ht hd hl, hs]
  rfl
theorem mm_ex_ca (ht : mm_mt[y]? = some t) (hd : decode t.2.1 pc = .ok (i, len)) (hl : mm_lk i len = true) {z : Nat} {as st' : List Value} {S' : mm_S} (hs : mm_st (d + 1) t pc ls st S i = mm_ca z as st' S') (hi : mm_iv i = true) (hm : mm_n S ≤ mm_n S' ∧ mm_z S ≤ mm_z S') (hz : z < mm_nc) : mm_ex (d + 1) y pc ls st S = mm_bd (mm_cl d z as S') (fun v S2 => mm_ex (d + 1) y (pc + 3) ls (v.toList ++ st') S2) := by
  have hl : (mm_lk i len && mm_mo i S (mm_st (d + 1) t pc ls st S i)) = true := by
    rw [hs, hl]
    simp [mm_mo, mm_ca, hm, hi]
  apply Option.ext
  intro r
  have hzt : mm_mt[z]? = mm_mc[z]? := by
    unfold mm_mt
    rw [List.getElem?_append_left (by rw [mm_mc_len]; exact hz)]
  cases hu : mm_mt[z]? with
  | none =>
    rw [hzt] at hu
    have h1 := List.getElem?_eq_none_iff.mp hu
    rw [mm_mc_len] at h1
    omega
  | some u =>
    unfold mm_cl mm_bd
    simp only [hu]
    rw [mm_ex_iff]
    constructor
    · rintro ⟨f, h⟩
      cases f with
      | zero => cases h
      | succ f =>
        rw [mm_run_eq ht hd hl, hs] at h
        simp only [mm_ca, if_pos hz, hu] at h
        by_cases hf : (mm_as as).length ≤ u.2.2.1
        · simp only [if_pos hf] at h ⊢
          cases hr : mm_run f d z 0 (mm_en u.2.2.1 as) [] S' with
          | none => rw [hr] at h; cases h
          | some q =>
            rw [hr] at h
            rw [mm_ex_iff.mpr ⟨f, hr⟩]
            exact mm_ex_iff.mpr ⟨f, h⟩
        · rw [if_neg hf] at h; cases h
    · intro h
      by_cases hf : (mm_as as).length ≤ u.2.2.1
      · simp only [if_pos hf] at h
        cases hq : mm_ex d z 0 (mm_en u.2.2.1 as) [] S' with
        | none => rw [hq] at h; cases h
        | some q =>
          rw [hq] at h
          obtain ⟨f, hf1⟩ := mm_ex_iff.mp hq
          obtain ⟨g, hg1⟩ := mm_ex_iff.mp h
          refine ⟨max f g + 1, ?_⟩
          rw [mm_run_eq ht hd hl, hs]
          simp only [mm_ca, if_pos hz, hu, if_pos hf]
          rw [mm_run_le (Nat.le_max_left f g) hf1]
          exact mm_run_le (Nat.le_max_right f g) hg1
      · rw [if_neg hf] at h; cases h
end MMX
end
section
/-! ===== the numbered cells as a world of the kit's ===== -/
def mm_ad (aa : Nat → Nat) (z : Value) (v : Value) : Value := match v with
  | .ref i => .ref (aa i)
  | .retAddr _ => z
  | v => v
def mm_fs (aa : Nat → Nat) (S : mm_S) (k i : Nat) : List Value := (List.range (mm_NF k)).map fun j => if mm_tg k j = 1 then .long (mm_L S i j) else if mm_tg k j = 2 then va_rf ((mm_R S i j).map aa) else .int (mm_M S i j)
def mm_ce1 (ca : Nat → ClassId) (aa : Nat → Nat) (S : mm_S) (i : Nat) : va_E :=
  if mm_K S i < 13 then .inr (mm_K S i, mm_fs aa S (mm_K S i) i)
  else if mm_K S i = 14 then .inl (ca (mm_K S i), mm_N S i, .inr (.inl (mm_L S i)))
  else if 16 ≤ mm_K S i then .inl (ca (mm_K S i), mm_N S i, .inr (.inr (.inr (.inr fun j => (mm_R S i j).map aa))))
  else .inl (ca (mm_K S i), mm_N S i, .inl (mm_M S i))
def mm_ws (ca : Nat → ClassId) (aa : Nat → Nat) (S : mm_S) : va_W := (List.range (mm_n S)).map fun i => (aa i, mm_ce1 ca aa S i)
def mm_ats (ca : Nat → ClassId) : List (ClassId × FieldType) := [(ca 13, .int), (ca 14, .long), (ca 15, .boolean), (ca 16, .object "PennyMore$Buyer"), (ca 17, .object "PennyMore$Shop"), (ca 18, .object "PennyMore$Tape")]
def mm_wf (S : mm_S) : Prop := (∀ i, i < mm_n S → ∀ j b, mm_R S i j = some b → b < mm_n S) ∧ mm_n S ≤ 1000000
def mm_vok (S : mm_S) (v : Value) : Prop := match v with
  | .ref i => i < mm_n S ∨ 1000000 ≤ i
  | _ => True
theorem mm_ws_get {ca : Nat → ClassId} {aa : Nat → Nat} {S : mm_S} {i : Nat} (h : i < mm_n S) : (mm_ws ca aa S)[i]? = some (aa i, mm_ce1 ca aa S i) := by
  simp [mm_ws, h]
theorem mm_ws_len {ca : Nat → ClassId} {aa : Nat → Nat} {S : mm_S} : (mm_ws ca aa S).length = mm_n S := by simp [mm_ws]
theorem mm_ws_set {ca : Nat → ClassId} {aa : Nat → Nat} {S S' : mm_S} {i : Nat} {e : va_E} (he : mm_ce1 ca aa S' i = e) (hn : mm_n S' = mm_n S) (hj : ∀ j, j ≠ i → mm_ce1 ca aa S' j = mm_ce1 ca aa S j) : (mm_ws ca aa S).set i (aa i, e) = mm_ws ca aa S' := by
  apply List.ext_getElem?
  intro j
  by_cases hl : j < mm_n S
  · rw [mm_ws_get (S := S') (by rw [hn]; exact hl)]
    by_cases h : j = i
    · subst h
      rw [List.getElem?_set_self (by rw [mm_ws_len]; exact hl), he]
    · rw [List.getElem?_set_ne (Ne.symm h), mm_ws_get hl, hj j h]
  · rw [List.getElem?_eq_none (by rw [List.length_set, mm_ws_len]; omega), List.getElem?_eq_none (by rw [mm_ws_len, hn]; omega)]
theorem mm_u_self {α : Type} {f : Nat → α} {k : Nat} {x : α} : mm_u f k x k = x := by simp [mm_u]
theorem mm_u_ne {α : Type} {f : Nat → α} {k j : Nat} {x : α} (h : j ≠ k) : mm_u f k x j = f j := by simp [mm_u, h]
theorem mm_ce1_sM {ca : Nat → ClassId} {aa : Nat → Nat} {S : mm_S} {i : Nat} {f : Nat → Int32} : ∀ j, j ≠ i → mm_ce1 ca aa (mm_sM S i f) j = mm_ce1 ca aa S j := by
  intro j hj
  have e1 : mm_M (mm_sM S i f) j = mm_M S j := mm_u_ne hj
  have e2 : ∀ k, mm_fs aa (mm_sM S i f) k j = mm_fs aa S k j := fun k => by
    unfold mm_fs
    rw [e1]; rfl
  unfold mm_ce1
  rw [e1, e2]; rfl
theorem mm_ce1_sL {ca : Nat → ClassId} {aa : Nat → Nat} {S : mm_S} {i : Nat} {f : Nat → Int64} : ∀ j, j ≠ i → mm_ce1 ca aa (mm_sL S i f) j = mm_ce1 ca aa S j := by
  intro j hj
  have e1 : mm_L (mm_sL S i f) j = mm_L S j := mm_u_ne hj
  have e2 : ∀ k, mm_fs aa (mm_sL S i f) k j = mm_fs aa S k j := fun k => by
    unfold mm_fs
    rw [e1]; rfl
  unfold mm_ce1
  rw [e1, e2]; rfl
theorem mm_ce1_sR {ca : Nat → ClassId} {aa : Nat → Nat} {S : mm_S} {i : Nat} {f : Nat → Option Nat} : ∀ j, j ≠ i → mm_ce1 ca aa (mm_sR S i f) j = mm_ce1 ca aa S j := by
  intro j hj
  have e1 : mm_R (mm_sR S i f) j = mm_R S j := mm_u_ne hj
  have e2 : ∀ k, mm_fs aa (mm_sR S i f) k j = mm_fs aa S k j := fun k => by
    unfold mm_fs
    rw [e1]; rfl
  unfold mm_ce1
  rw [e1, e2]; rfl
/-- where the numbers are the same, the cell is -/
theorem mm_ce1_aa {ca : Nat → ClassId} {aa bb : Nat → Nat} {S : mm_S} {i : Nat} (h : ∀ j b, mm_R S i j = some b → bb b = aa b) : mm_ce1 ca bb S i = mm_ce1 ca aa S i := by
  have e1 : ∀ j, (mm_R S i j).map bb = (mm_R S i j).map aa := fun j => by
    cases hr : mm_R S i j with
    | none => rfl
    | some b => simp [h j b hr]
  have e2 : ∀ k, mm_fs bb S k i = mm_fs aa S k i := fun k => by
    unfold mm_fs
    simp only [e1]
  unfold mm_ce1
  simp only [e1, e2]
theorem mm_ws_push {ca : Nat → ClassId} {aa : Nat → Nat} {S : mm_S} {k n q : Nat} {e : va_E} (hw : mm_wf S) (he : mm_ce1 ca (mm_u aa (mm_n S) q) (mm_nw S k n) (mm_n S) = e) : mm_ws ca aa S ++ [(q, e)] = mm_ws ca (mm_u aa (mm_n S) q) (mm_nw S k n) := by
  have hn : mm_n (mm_nw S k n) = mm_n S + 1 := rfl
  apply List.ext_getElem?
  intro j
  rcases Nat.lt_trichotomy j (mm_n S) with hj | hj | hj
  · rw [List.getElem?_append_left (by rw [mm_ws_len]; exact hj), mm_ws_get hj, mm_ws_get (by rw [hn]; omega)]
    have hne : j ≠ mm_n S := by omega
    have a1 : mm_u aa (mm_n S) q j = aa j := mm_u_ne hne
    have r1 : mm_R (mm_nw S k n) j = mm_R S j := mm_u_ne hne
    have m1 : mm_M (mm_nw S k n) j = mm_M S j := mm_u_ne hne
    have l1 : mm_L (mm_nw S k n) j = mm_L S j := mm_u_ne hne
    have k1 : mm_K (mm_nw S k n) j = mm_K S j := mm_u_ne hne
    have n1 : mm_N (mm_nw S k n) j = mm_N S j := mm_u_ne hne
    rw [a1, mm_ce1_aa (aa := aa) (fun i b h => mm_u_ne (by have := hw.1 j hj i b (by rw [← r1]; exact h); omega))]
    have e2 : ∀ k', mm_fs aa (mm_nw S k n) k' j = mm_fs aa S k' j := fun k' => by
      unfold mm_fs
      rw [r1, m1, l1]
    unfold mm_ce1
    rw [k1, n1, m1, l1, r1, e2]
  · subst hj
    rw [List.getElem?_append_right (by rw [mm_ws_len]; exact Nat.le_refl _), mm_ws_get (by rw [hn]; omega), mm_ws_len, Nat.sub_self, mm_u_self, he]
    rfl
  · rw [List.getElem?_eq_none (by simp [mm_ws_len]; omega), List.getElem?_eq_none (by rw [mm_ws_len, hn]; omega)]
theorem mm_cls_get : ∀ k, k < 13 → mm_cl_s[k]? = some (mm_ck k, mm_T k, mm_NF k) := by
  intro k hk
  match k, hk with
  | 0, _ => rfl
  | 1, _ => rfl
  | 2, _ => rfl
  | 3, _ => rfl
  | 4, _ => rfl
  | 5, _ => rfl
  | 6, _ => rfl
  | 7, _ => rfl
  | 8, _ => rfl
  | 9, _ => rfl
  | 10, _ => rfl
  | 11, _ => rfl
  | 12, _ => rfl
  | k + 13, h => exact absurd h (by omega)
theorem mm_ad_cat {aa : Nat → Nat} {z v : Value} (hz : z.category = 1) : (mm_ad aa z v).category = v.category := by
  cases v <;> first | rfl | exact hz
theorem mm_cs_map {aa : Nat → Nat} {z : Value} (hz : z.category = 1) : ∀ l : List Value, ((l.map (mm_ad aa z)).map fun v => v.category).sum = mm_cs l
  | [] => rfl
  | v :: l => by
    simp only [List.map_cons, List.sum_cons, mm_cs]
    rw [mm_ad_cat hz, mm_cs_map hz l]
theorem mm_ad_aa {aa bb : Nat → Nat} {z v : Value} {S : mm_S} (hv : mm_vok S v) (h : ∀ i, i < mm_n S ∨ 1000000 ≤ i → bb i = aa i) : mm_ad bb z v = mm_ad aa z v := by
  cases v <;> try rfl
  rename_i i
  exact congrArg Value.ref (h i hv)
theorem mm_map_aa {aa bb : Nat → Nat} {z : Value} {S : mm_S} {l : List Value} (hv : ∀ v ∈ l, mm_vok S v) (h : ∀ i, i < mm_n S ∨ 1000000 ≤ i → bb i = aa i) : l.map (mm_ad bb z) = l.map (mm_ad aa z) :=
  List.map_congr_left fun v hm => mm_ad_aa (hv v hm) h
theorem mm_ad_ref {aa : Nat → Nat} {z : Value} {i : Nat} : mm_ad aa z (.ref i) = .ref (aa i) := rfl
theorem mm_ad_rv {aa : Nat → Nat} {z : Value} {o : Option Nat} : mm_ad aa z (mm_rv o) = va_rf (o.map aa) := by cases o <;> rfl
/-! ===== the locals ===== -/
def mm_la (aa : Nat → Nat) (z : Value) (ls : List Value) : List (Nat × Value) := (List.range ls.length).filterMap fun i => match mm_lg ls i with
  | .null => none
  | v => some (i, mm_ad aa z v)
def mm_Lr (aa : Nat → Nat) (z : Value) (ls : List Value) (lm : Array Slot) (n : Nat) : Prop := ls.length = n ∧ lv_has lm n (mm_la aa z ls)
theorem mm_la_mem {aa : Nat → Nat} {z : Value} {ls : List Value} {q : Nat × Value} : q ∈ mm_la aa z ls ↔ ∃ v, q.1 < ls.length ∧ mm_lg ls q.1 = v ∧ v ≠ .null ∧ q.2 = mm_ad aa z v := by
  unfold mm_la
  rw [List.mem_filterMap]
  constructor
  · rintro ⟨i, hi, h⟩
    rw [List.mem_range] at hi
    cases hv : mm_lg ls i <;> rw [hv] at h <;> simp only [Option.some.injEq, reduceCtorEq] at h <;> subst h <;> exact ⟨_, hi, hv, by simp, rfl⟩
  · rintro ⟨v, hi, hv, hn, h2⟩
    refine ⟨q.1, List.mem_range.mpr hi, ?_⟩
    obtain ⟨i, w⟩ := q
    simp only at hv h2 ⊢
    rw [hv]
    subst h2
    cases v <;> first | rfl | exact absurd rfl hn
theorem lv_has_sub {ls : Array Slot} {n : Nat} {l l' : List (Nat × Value)} (h : lv_has ls n l) (hs : ∀ q ∈ l', q ∈ l) : lv_has ls n l' := ⟨h.1, h.2.1, fun q hq => h.2.2 q (hs q hq)⟩
theorem mm_Lr_get {aa : Nat → Nat} {z v : Value} {ls : List Value} {lm : Array Slot} {n k : Nat} (h : mm_Lr aa z ls lm n) (hv : mm_lg ls k = v) (hn : v ≠ .null) : lm[k]? = some (.val (mm_ad aa z v)) := by
  have hk : k < ls.length := by
    rcases Nat.lt_or_ge k ls.length with q | q
    · exact q
    · unfold mm_lg at hv
      rw [List.getD_eq_getElem?_getD, List.getElem?_eq_none q] at hv
      exact absurd hv.symm hn
  exact h.2.2.2 (k, mm_ad aa z v) (mm_la_mem.mpr ⟨v, hk, hv, hn, rfl⟩)
theorem mm_lg_set {ls : List Value} {i j : Nat} {v : Value} : mm_lg (ls.set i v) j = if j = i ∧ i < ls.length then v else mm_lg ls j := by
  unfold mm_lg
  rw [List.getD_eq_getElem?_getD, List.getD_eq_getElem?_getD, List.getElem?_set]
  by_cases h : i = j
  · subst h
    by_cases hl : i < ls.length
    · simp [hl]
    · simp [hl, List.getElem?_eq_none (Nat.not_lt.mp hl)]
  · have h2 : ¬ (j = i ∧ i < ls.length) := fun q => h q.1.symm
    rw [if_neg h, if_neg h2]
theorem mm_kl_len {ls : List Value} {i : Nat} : (mm_kl ls i).length = ls.length := by cases i <;> simp [mm_kl]
theorem mm_l1_len {ls : List Value} {i : Nat} {v : Value} : (mm_l1 ls i v).length = ls.length := by simp [mm_l1, mm_kl_len]
theorem mm_l2_len {ls : List Value} {i : Nat} {v : Value} : (mm_l2 ls i v).length = ls.length := by simp [mm_l2, mm_kl_len]
theorem mm_lg_kl {ls : List Value} {i j : Nat} {v : Value} (h : mm_lg (mm_kl ls i) j = v) (hn : v ≠ .null) (hj : j < ls.length) : mm_lg ls j = v ∧ ¬ (j + 1 = i ∧ v.category = 2) := by
  cases i with
  | zero => exact ⟨h, by omega⟩
  | succ k =>
    unfold mm_kl at h
    rw [mm_lg_set] at h
    by_cases hk : j = k
    · subst hk
      rw [if_pos ⟨rfl, hj⟩] at h
      unfold mm_k1 at h
      split at h
      · exact absurd h.symm hn
      · rename_i hc
        subst h
        exact ⟨rfl, fun q => hc q.2⟩
    · rw [if_neg (fun q => hk q.1)] at h
      exact ⟨h, by omega⟩
theorem mm_Lr_1 {aa : Nat → Nat} {z v : Value} {ls : List Value} {lm lm' : Array Slot} {n i : Nat} (hz : z.category = 1) (h : mm_Lr aa z ls lm n) (h2 : lv_has lm' n ((i, mm_ad aa z v) :: (mm_la aa z ls).filter (fun q => !(q.1 == i) && !(q.1 + 1 == i && q.2.category == 2)))) : mm_Lr aa z (mm_l1 ls i v) lm' n := by
  refine ⟨mm_l1_len.trans h.1, lv_has_sub h2 fun q hq => ?_⟩
  obtain ⟨w, a1, a2, a3, a4⟩ := mm_la_mem.mp hq
  rw [mm_l1_len] at a1
  obtain ⟨j, x⟩ := q
  simp only at a1 a2 a4
  unfold mm_l1 at a2
  rw [mm_lg_set] at a2
  by_cases hj : j = i
  · subst hj
    rw [if_pos ⟨rfl, by rw [mm_kl_len]; exact a1⟩] at a2
    subst a2
    rw [a4]; exact List.mem_cons_self
  · rw [if_neg (fun q => hj q.1)] at a2
    obtain ⟨b1, b2⟩ := mm_lg_kl a2 a3 a1
    refine List.mem_cons_of_mem _ (List.mem_filter.mpr ⟨mm_la_mem.mpr ⟨w, a1, b1, a3, a4⟩, ?_⟩)
    simp only [a4, mm_ad_cat hz]
    have : ¬ (j + 1 = i ∧ w.category = 2) := b2
    simp only [Bool.and_eq_true, Bool.not_eq_true', beq_eq_false_iff_ne, ne_eq, hj, not_false_eq_true, true_and, Bool.and_eq_false_iff]
    by_cases hc : j + 1 = i
    · exact Or.inr fun q => b2 ⟨hc, q⟩
    · exact Or.inl hc
theorem mm_Lr_2 {aa : Nat → Nat} {z v : Value} {ls : List Value} {lm lm' : Array Slot} {n i : Nat} (hz : z.category = 1) (h : mm_Lr aa z ls lm n) (h2 : lv_has lm' n ((i, mm_ad aa z v) :: (mm_la aa z ls).filter (fun q => !(q.1 == i) && (!(q.1 == i + 1) && !(q.1 + 1 == i && q.2.category == 2))))) : mm_Lr aa z (mm_l2 ls i v) lm' n := by
  refine ⟨mm_l2_len.trans h.1, lv_has_sub h2 fun q hq => ?_⟩
  obtain ⟨w, a1, a2, a3, a4⟩ := mm_la_mem.mp hq
  rw [mm_l2_len] at a1
  obtain ⟨j, x⟩ := q
  simp only at a1 a2 a4
  unfold mm_l2 at a2
  rw [mm_lg_set] at a2
  by_cases hj1 : j = i + 1
  · subst hj1
    rw [if_pos ⟨rfl, by rw [List.length_set, mm_kl_len]; exact a1⟩] at a2
    exact absurd a2.symm a3
  · rw [if_neg (fun q => hj1 q.1), mm_lg_set] at a2
    by_cases hj : j = i
    · subst hj
      rw [if_pos ⟨rfl, by rw [mm_kl_len]; exact a1⟩] at a2
      subst a2
      rw [a4]; exact List.mem_cons_self
    · rw [if_neg (fun q => hj q.1)] at a2
      obtain ⟨b1, b2⟩ := mm_lg_kl a2 a3 a1
      refine List.mem_cons_of_mem _ (List.mem_filter.mpr ⟨mm_la_mem.mpr ⟨w, a1, b1, a3, a4⟩, ?_⟩)
      simp only [a4, mm_ad_cat hz]
      simp only [Bool.and_eq_true, Bool.not_eq_true', beq_eq_false_iff_ne, ne_eq, hj, hj1, not_false_eq_true, true_and, Bool.and_eq_false_iff]
      by_cases hc : j + 1 = i
      · exact Or.inr fun q => b2 ⟨hc, q⟩
      · exact Or.inl hc
theorem mm_Lr_aa {aa bb : Nat → Nat} {z : Value} {S : mm_S} {ls : List Value} {lm : Array Slot} {n : Nat} (h : mm_Lr aa z ls lm n) (hv : ∀ v ∈ ls, mm_vok S v) (he : ∀ i, i < mm_n S ∨ 1000000 ≤ i → bb i = aa i) : mm_Lr bb z ls lm n := by
  refine ⟨h.1, lv_has_sub h.2 fun q hq => ?_⟩
  obtain ⟨w, a1, a2, a3, a4⟩ := mm_la_mem.mp hq
  have hm : w ∈ ls := by
    unfold mm_lg at a2
    rw [List.getD_eq_getElem?_getD, List.getElem?_eq_getElem a1] at a2
    rw [← a2]
    exact List.getElem_mem a1
  exact mm_la_mem.mpr ⟨w, a1, a2, a3, by rw [a4]; exact mm_ad_aa (hv w hm) he⟩
theorem mm_lg_vok {S : mm_S} {ls : List Value} (hv : ∀ v ∈ ls, mm_vok S v) (k : Nat) : mm_vok S (mm_lg ls k) := by
  unfold mm_lg
  rw [List.getD_eq_getElem?_getD]
  cases h : ls[k]? with
  | none => exact trivial
  | some v => exact hv v (List.mem_of_getElem? h)
theorem mm_set_vok {S : mm_S} {ls : List Value} (hv : ∀ v ∈ ls, mm_vok S v) {i : Nat} {v : Value} (h : mm_vok S v) : ∀ w ∈ ls.set i v, mm_vok S w := by
  intro w hw
  rcases List.mem_or_eq_of_mem_set hw with q | q
  · exact hv w q
  · rw [q]; exact h
theorem mm_kl_vok {S : mm_S} {ls : List Value} (hv : ∀ v ∈ ls, mm_vok S v) (i : Nat) : ∀ w ∈ mm_kl ls i, mm_vok S w := by
  cases i with
  | zero => exact hv
  | succ k =>
    refine mm_set_vok hv ?_
    unfold mm_k1
    split
    · exact trivial
    · exact mm_lg_vok hv k
theorem mm_l1_vok {S : mm_S} {ls : List Value} (hv : ∀ v ∈ ls, mm_vok S v) {i : Nat} {v : Value} (h : mm_vok S v) : ∀ w ∈ mm_l1 ls i v, mm_vok S w := mm_set_vok (mm_kl_vok hv i) h
theorem mm_l2_vok {S : mm_S} {ls : List Value} (hv : ∀ v ∈ ls, mm_vok S v) {i : Nat} {v : Value} (h : mm_vok S v) : ∀ w ∈ mm_l2 ls i v, mm_vok S w := mm_set_vok (mm_set_vok (mm_kl_vok hv i) h) trivial
/-! ===== an entry's locals ===== -/
theorem mm_as_len {aa : Nat → Nat} {z : Value} (hz : z.category = 1) : ∀ as : List Value, (lg_sl (as.map (mm_ad aa z))).length = (mm_as as).length
  | [] => rfl
  | v :: l => by
    have ih := mm_as_len (aa := aa) hz l
    simp only [lg_sl, List.map_cons, List.flatMap_cons, mm_ad_cat hz, mm_as]
    simp only [lg_sl] at ih
    by_cases h : v.category = 2
    · simp only [if_pos h, List.length_append, List.length_cons, List.length_nil, ih]; omega
    · simp only [if_neg h, List.length_append, List.length_cons, List.length_nil, ih]; omega
theorem mm_as_args {aa : Nat → Nat} {z : Value} (hz : z.category = 1) : ∀ (as : List Value) (k : Nat) (v : Value) (j : Nat), (mm_as as)[j]? = some v → v ≠ .null → (k + j, mm_ad aa z v) ∈ lv_args k (as.map (mm_ad aa z))
  | [], k, v, j, h, _ => by simp [mm_as] at h
  | w :: l, k, v, j, h, hn => by
    simp only [List.map_cons, lv_args, mm_ad_cat hz]
    unfold mm_as at h
    by_cases hc : w.category = 2
    · rw [if_pos hc] at h ⊢
      match j, h with
      | 0, h => cases h; exact List.mem_cons_self
      | 1, h => cases h; exact absurd rfl hn
      | j + 2, h =>
        have := mm_as_args (aa := aa) hz l (k + 2) v j (by simpa using h) hn
        exact List.mem_cons_of_mem _ (by rw [show k + (j + 2) = k + 2 + j by omega]; exact this)
    · rw [if_neg hc] at h ⊢
      match j, h with
      | 0, h => cases h; exact List.mem_cons_self
      | j + 1, h =>
        have := mm_as_args (aa := aa) hz l (k + 1) v j (by simpa using h) hn
        exact List.mem_cons_of_mem _ (by rw [show k + (j + 1) = k + 1 + j by omega]; exact this)
theorem mm_en_Lr {aa : Nat → Nat} {z : Value} (hz : z.category = 1) {as : List Value} {n : Nat} (hn : (mm_as as).length ≤ n) : mm_Lr aa z (mm_en n as) ((lg_sl (as.map (mm_ad aa z)) ++ List.replicate (n - (lg_sl (as.map (mm_ad aa z))).length) Slot.unset).toArray) n := by
  have h := lv_entry (as.map (mm_ad aa z)) (n := n) (by rw [mm_as_len hz]; exact hn)
  refine ⟨by simp [mm_en]; omega, lv_has_sub h fun q hq => ?_⟩
  obtain ⟨w, a1, a2, a3, a4⟩ := mm_la_mem.mp hq
  obtain ⟨j, x⟩ := q
  simp only at a1 a2 a4
  have hj : (mm_as as)[j]? = some w := by
    unfold mm_lg mm_en at a2
    rw [List.getD_eq_getElem?_getD, List.getElem?_append] at a2
    split at a2
    · rename_i hl
      rw [List.getElem?_eq_getElem hl] at a2 ⊢
      exact congrArg some a2
    · rw [List.getElem?_replicate] at a2
      split at a2 <;> exact absurd a2.symm a3
  rw [a4]
  have := mm_as_args (aa := aa) hz as 0 w j hj a3
  rw [Nat.zero_add] at this
  exact this
end
section
/-! ===== each instruction of the small machine is one of the machine's ===== -/
def mm_sl : List Nat := (List.range 12).map fun k => (mm_sx k).2.2.length
def mm_sb : List (List Int32) := (List.range 12).map fun k => (mm_sx k).2.2
def mm_Ev (z : Value) (aa : Nat → Nat) (A : Nat → Prop) (U : State) (H : Heap) : Prop :=
  vk_S 12 mm_sl mm_sb (fun k => aa (1000000 + 2 * k)) (fun k => aa (1000000 + 2 * k + 1)) A U H ∧
  (∀ k, k < 12 → vk_R "PennyMore$Reader" (mm_sx k).1 (mm_sx k).2.1 (aa (1000000 + 2 * k)) U) ∧
  va_Z "java/lang/String" "COMPACT_STRINGS" "Z" (.int 1) A U H ∧
  va_Z "jdk/internal/util/Preconditions" "SIOOBE_FORMATTER" "Ljava/util/function/BiFunction;" z A U H ∧
  z.category = 1 ∧ (∀ q ∈ mm_NC, va_Nc q.1 q.2 U) ∧ (∀ q ∈ mm_E1, va_Nw (.castable q.1 q.2) U) ∧ (∀ q ∈ mm_E2, va_AO q U) ∧ (∀ q ∈ mm_E3, va_Nw (.methodLinkNest q.1 q.2.1 q.2.2.1 q.2.2.2) U)
/-- what stays the same in a frame -/
def mm_Fx (p : Program) (R : Room) (s : State) (m : MethodId) (args : Array Value) (meth : Method) (c : Code) (D : va_G) (ca : Nat → ClassId) (A : Nat → Prop) (d : Nat) (t : mm_mT) : Prop :=
  p.tables.exec = Jvm.exec ∧ c.code = t.2.1 ∧ c.maxLocals = t.2.2.1 ∧ s.vm.findClass (mm_cn t.2.2.2.2) = some m.cls ∧ (∀ w ∈ mm_G, w.before args s = true) ∧ (t.1.name = "<init>" → meth.name = "<init>") ∧ t.1.cls = mm_cn t.2.2.2.2 ∧ va_K D mm_cl_s (mm_ats ca) s ∧ (∀ q, s.heap.size ≤ q → A q) ∧ d ≤ R.frames ∧ 60 * d ≤ R.locals
/-- the world as it is -/
def mm_Ix (s : State) (D : va_G) (ca : Nat → ClassId) (z : Value) (A : Nat → Prop) (t : mm_mT) (XS : Nat × (Nat → Int32)) (aa : Nat → Nat) (S : mm_S) (H : Heap) (locs : List Loc) : Prop :=
  va_P D mm_cl_s (mm_ws ca aa S) H ∧ va_D A (mm_ws ca aa S) ∧ va_S A s.heap H locs ∧ mm_wf S ∧ mm_Ev z aa A s s.heap ∧ mm_N S mm_SC = XS.1 ∧ mm_M S mm_SC = XS.2 ∧ (t.2.2.2.2 = 17 → va_X (aa mm_SC) XS.1 XS.2 s s.heap ∧ aa mm_SC < s.heap.size ∧ ¬ A (aa mm_SC))
/-- locals and stack -/
def mm_Sx (aa : Nat → Nat) (z : Value) (S : mm_S) (t : mm_mT) (ls : List Value) (lm : Array Slot) (st : List Value) : Prop := (∀ v ∈ ls, mm_vok S v) ∧ (∀ v ∈ st, mm_vok S v) ∧ mm_Lr aa z ls lm t.2.2.1
def mm_Kx (p : Program) (l : Launch) (e : Env) (R : Room) (s : State) (m : MethodId) (args : Array Value) (below : List Frame) (meth : Method) (c : Code) (Q : State → Prop) (D : va_G) (ca : Nat → ClassId) (z : Value) (A : Nat → Prop) (t : mm_mT) (XS : Nat × (Nat → Int32)) (aa : Nat → Nat) (S : mm_S) (cells slots : Nat) (pc' : Nat) (ls' st' : List Value) (S' : mm_S) : Prop :=
  ∀ (aa' : Nat → Nat) (H' : Heap) (locs' : List Loc) (lm' : Array Slot) (cells' slots' : Nat), cells' + mm_n S = cells + mm_n S' → slots' + mm_z S = slots + mm_z S' → (∀ i, i < mm_n S ∨ 1000000 ≤ i → aa' i = aa i) → mm_Ix s D ca z A t XS aa' S' H' locs' → mm_Sx aa' z S' t ls' lm' st' → W p l e R s m args below meth c H' locs' cells' slots' Q (F0 m pc' lm' (st'.map (mm_ad aa' z)))
def mm_Ok (i : Instr) : Prop := ∀ (p : Program) (l : Launch) (e : Env) (R : Room) (s : State) (m : MethodId) (args : Array Value) (below : List Frame) (meth : Method) (c : Code) (Q : State → Prop) (D : va_G) (ca : Nat → ClassId) (z : Value) (A : Nat → Prop) (t : mm_mT) (XS : Nat × (Nat → Int32)) (d pc len : Nat) (ls st : List Value) (S : mm_S) (pc' : Nat) (ls' st' : List Value) (S' : mm_S) (aa : Nat → Nat) (H : Heap) (locs : List Loc) (lm : Array Slot) (cells slots : Nat),
  mm_Fx p R s m args meth c D ca A d t → mm_Ix s D ca z A t XS aa S H locs → mm_Sx aa z S t ls lm st → decode t.2.1 pc = .ok (i, len) → mm_lk i len = true → mm_st d t pc ls st S i = mm_go pc' ls' st' S' → cells + mm_n S' ≤ R.cells + mm_n S → slots + mm_z S' ≤ R.slots + mm_z S → mm_Kx p l e R s m args below meth c Q D ca z A t XS aa S cells slots pc' ls' st' S' → W p l e R s m args below meth c H locs cells slots Q (F0 m pc lm (st.map (mm_ad aa z)))
theorem mm_lk_eq {i : Instr} {len k : Nat} (h : mm_lk i len = true) (hk : mm_ln i = k) (h0 : k ≠ 0) : len = k := by
  unfold mm_lk at h
  rw [hk] at h
  simp only [Bool.or_eq_true, decide_eq_true_eq] at h
  rcases h with h | h
  · exact absurd h h0
  · exact h.symm
theorem mm_go_inv {pc pc' : Nat} {ls ls' st st' : List Value} {S S' : mm_S} (h : mm_go pc ls st S = mm_go pc' ls' st' S') : pc = pc' ∧ ls = ls' ∧ st = st' ∧ S = S' := by
  unfold mm_go at h
  simp only [Option.some.injEq, Sum.inl.injEq, Prod.mk.injEq] at h
  exact h
theorem mm_i1_inv {st : List Value} {f : Int32 → List Value → mm_Act} {pc : Nat} {ls st' : List Value} {S : mm_S} (h : mm_i1 st f = mm_go pc ls st' S) : ∃ x r, st = .int x :: r ∧ f x r = mm_go pc ls st' S := by
  unfold mm_i1 at h
  split at h
  · exact ⟨_, _, rfl, h⟩
  · cases h
theorem mm_i2_inv {st : List Value} {f : Int32 → Int32 → List Value → mm_Act} {pc : Nat} {ls st' : List Value} {S : mm_S} (h : mm_i2 st f = mm_go pc ls st' S) : ∃ x y r, st = .int y :: .int x :: r ∧ f x y r = mm_go pc ls st' S := by
  unfold mm_i2 at h
  split at h
  · exact ⟨_, _, _, rfl, h⟩
  · cases h
theorem mm_j1_inv {st : List Value} {f : Int64 → List Value → mm_Act} {pc : Nat} {ls st' : List Value} {S : mm_S} (h : mm_j1 st f = mm_go pc ls st' S) : ∃ x r, st = .long x :: r ∧ f x r = mm_go pc ls st' S := by
  unfold mm_j1 at h
  split at h
  · exact ⟨_, _, rfl, h⟩
  · cases h
theorem mm_j2_inv {st : List Value} {f : Int64 → Int64 → List Value → mm_Act} {pc : Nat} {ls st' : List Value} {S : mm_S} (h : mm_j2 st f = mm_go pc ls st' S) : ∃ x y r, st = .long y :: .long x :: r ∧ f x y r = mm_go pc ls st' S := by
  unfold mm_j2 at h
  split at h
  · exact ⟨_, _, _, rfl, h⟩
  · cases h
theorem mm_r1_inv {st : List Value} {f : Nat → List Value → mm_Act} {pc : Nat} {ls st' : List Value} {S : mm_S} (h : mm_r1 st f = mm_go pc ls st' S) : ∃ (x : Nat) (r : List Value), st = .ref x :: r ∧ f x r = mm_go pc ls st' S := by
  unfold mm_r1 at h
  split at h
  · exact ⟨_, _, rfl, h⟩
  · cases h
theorem mm_pr_inv {st : List Value} {f : Value → Nat → List Value → mm_Act} {pc : Nat} {ls st' : List Value} {S : mm_S} (h : mm_pr st f = mm_go pc ls st' S) : ∃ (v : Value) (a : Nat) (r : List Value), st = v :: .ref a :: r ∧ f v a r = mm_go pc ls st' S := by
  unfold mm_pr at h
  split at h
  · exact ⟨_, _, _, rfl, h⟩
  · cases h
theorem mm_v1_inv {st : List Value} {f : Value → List Value → mm_Act} {pc : Nat} {ls st' : List Value} {S : mm_S} (h : mm_v1 st f = mm_go pc ls st' S) : ∃ v r, st = v :: r ∧ f v r = mm_go pc ls st' S := by
  unfold mm_v1 at h
  split at h
  · exact ⟨_, _, rfl, h⟩
  · cases h
theorem mm_gd_inv {b : Bool} {B : mm_Act} {pc : Nat} {ls st' : List Value} {S : mm_S} (h : mm_gd b B = mm_go pc ls st' S) : b = true ∧ B = mm_go pc ls st' S := by
  unfold mm_gd at h
  split at h
  · exact ⟨by assumption, h⟩
  · cases h
theorem mm_jp_inv {pc : Nat} {off : Int} {ls st : List Value} {S : mm_S} {pc' : Nat} {ls' st' : List Value} {S' : mm_S} (h : mm_jp pc off ls st S = mm_go pc' ls' st' S') : (pc : Int) + off = (pc' : Int) ∧ ls = ls' ∧ st = st' ∧ S = S' := by
  unfold mm_jp at h
  split at h
  · cases h
  · rename_i hn
    obtain ⟨rfl, h2, h3, h4⟩ := mm_go_inv h
    exact ⟨by omega, h2, h3, h4⟩
theorem mm_cj_inv {b : Bool} {pc : Nat} {off : Int} {ls st : List Value} {S : mm_S} {pc' : Nat} {ls' st' : List Value} {S' : mm_S} (h : mm_cj b pc off ls st S = mm_go pc' ls' st' S') : ∃ tgt : Nat, (pc : Int) + off = (tgt : Int) ∧ ls = ls' ∧ st = st' ∧ S = S' ∧ ((b = true ∧ pc' = tgt) ∨ (b = false ∧ pc' = pc + 3)) := by
  unfold mm_cj at h
  split at h
  · cases h
  · rename_i hn
    split at h
    · rename_i hb
      obtain ⟨rfl, h2, h3, h4⟩ := mm_go_inv h
      exact ⟨((pc : Int) + off).toNat, by omega, h2, h3, h4, Or.inl ⟨hb, rfl⟩⟩
    · rename_i hb
      obtain ⟨rfl, h2, h3, h4⟩ := mm_go_inv h
      exact ⟨((pc : Int) + off).toNat, by omega, h2, h3, h4, Or.inr ⟨by simpa using hb, rfl⟩⟩
theorem mm_t1 {S : mm_S} {v : Value} {l : List Value} (h : ∀ w ∈ v :: l, mm_vok S w) : ∀ w ∈ l, mm_vok S w := fun w hw => h w (List.mem_cons_of_mem _ hw)
theorem mm_p1 {S : mm_S} {v : Value} {l : List Value} (hv : mm_vok S v) (h : ∀ w ∈ l, mm_vok S w) : ∀ w ∈ v :: l, mm_vok S w := List.forall_mem_cons.mpr ⟨hv, h⟩
theorem mm_inb_in {i : Int32} {n : Nat} (h : mm_inb i n = true) : vp_in i n := by
  unfold mm_inb at h
  unfold vp_in
  simpa using h

theorem mo_iconst (n : Int) : mm_Ok (.iconst n) := by
  intro p l e R s m args below meth c Q D ca z A t XS d pc len ls st S pc2 ls2 st2 S2 aa H locs lm cells slots F I X hd hl hs hc hz K
  obtain ⟨hx, hb, hml, hown, hts, hnm, hcn, hK, hA, hdf, hdl⟩ := F
  obtain rfl : len = 1 := mm_lk_eq hl rfl (by decide)
  have hs : mm_go (pc + 1) ls (.int (Int32.ofInt n) :: st) S = _ := hs
  obtain ⟨rfl, rfl, rfl, rfl⟩ := mm_go_inv hs
  have K0 : (∀ v ∈ .int (Int32.ofInt n) :: st, mm_vok S v) → W p l e R s m args below meth c H locs cells slots Q (F0 m (pc + 1) lm ((.int (Int32.ofInt n) :: st).map (mm_ad aa z))) := fun hv => K aa H locs lm cells slots rfl rfl (fun _ _ => rfl) I ⟨X.1, hv, X.2.2⟩
  exact lv_iconst hx hb hd rfl (K0 (mm_p1 trivial X.2.1))

theorem mo_bipush (n : Int) : mm_Ok (.bipush n) := by
  intro p l e R s m args below meth c Q D ca z A t XS d pc len ls st S pc2 ls2 st2 S2 aa H locs lm cells slots F I X hd hl hs hc hz K
  obtain ⟨hx, hb, hml, hown, hts, hnm, hcn, hK, hA, hdf, hdl⟩ := F
  obtain rfl : len = 2 := mm_lk_eq hl rfl (by decide)
  have hs : mm_go (pc + 2) ls (.int (Int8.ofInt n).toInt32 :: st) S = _ := hs
  obtain ⟨rfl, rfl, rfl, rfl⟩ := mm_go_inv hs
  have K0 : (∀ v ∈ .int (Int8.ofInt n).toInt32 :: st, mm_vok S v) → W p l e R s m args below meth c H locs cells slots Q (F0 m (pc + 2) lm ((.int (Int8.ofInt n).toInt32 :: st).map (mm_ad aa z))) := fun hv => K aa H locs lm cells slots rfl rfl (fun _ _ => rfl) I ⟨X.1, hv, X.2.2⟩
  exact lv_bipush hx hb hd rfl (K0 (mm_p1 trivial X.2.1))

theorem mo_sipush (n : Int) : mm_Ok (.sipush n) := by
  intro p l e R s m args below meth c Q D ca z A t XS d pc len ls st S pc2 ls2 st2 S2 aa H locs lm cells slots F I X hd hl hs hc hz K
  obtain ⟨hx, hb, hml, hown, hts, hnm, hcn, hK, hA, hdf, hdl⟩ := F
  obtain rfl : len = 3 := mm_lk_eq hl rfl (by decide)
  have hs : mm_go (pc + 3) ls (.int (Int16.ofInt n).toInt32 :: st) S = _ := hs
  obtain ⟨rfl, rfl, rfl, rfl⟩ := mm_go_inv hs
  have K0 : (∀ v ∈ .int (Int16.ofInt n).toInt32 :: st, mm_vok S v) → W p l e R s m args below meth c H locs cells slots Q (F0 m (pc + 3) lm ((.int (Int16.ofInt n).toInt32 :: st).map (mm_ad aa z))) := fun hv => K aa H locs lm cells slots rfl rfl (fun _ _ => rfl) I ⟨X.1, hv, X.2.2⟩
  exact lv_sipush hx hb hd rfl (K0 (mm_p1 trivial X.2.1))

theorem mo_lconst (n : Fin 2) : mm_Ok (.lconst n) := by
  intro p l e R s m args below meth c Q D ca z A t XS d pc len ls st S pc2 ls2 st2 S2 aa H locs lm cells slots F I X hd hl hs hc hz K
  obtain ⟨hx, hb, hml, hown, hts, hnm, hcn, hK, hA, hdf, hdl⟩ := F
  obtain rfl : len = 1 := mm_lk_eq hl rfl (by decide)
  have hs : mm_go (pc + 1) ls (.long (Int64.ofNat (n : Nat)) :: st) S = _ := hs
  obtain ⟨rfl, rfl, rfl, rfl⟩ := mm_go_inv hs
  have K0 : (∀ v ∈ .long (Int64.ofNat (n : Nat)) :: st, mm_vok S v) → W p l e R s m args below meth c H locs cells slots Q (F0 m (pc + 1) lm ((.long (Int64.ofNat (n : Nat)) :: st).map (mm_ad aa z))) := fun hv => K aa H locs lm cells slots rfl rfl (fun _ _ => rfl) I ⟨X.1, hv, X.2.2⟩
  exact lv_lconst hx hb hd rfl (K0 (mm_p1 trivial X.2.1))

theorem mo_iload (k : Nat) : mm_Ok (.iload k) := by
  intro p l e R s m args below meth c Q D ca z A t XS d pc len ls st S pc2 ls2 st2 S2 aa H locs lm cells slots F I X hd hl hs hc hz K
  obtain ⟨hx, hb, hml, hown, hts, hnm, hcn, hK, hA, hdf, hdl⟩ := F
  obtain rfl : len = 2 := mm_lk_eq hl rfl (by decide)
  have hs : mm_i1 [mm_lg ls k] (fun x _ => mm_go (pc + 2) ls (.int x :: st) S) = _ := hs
  obtain ⟨x, r, hv, hs⟩ := mm_i1_inv hs
  have hv : mm_lg ls k = .int x := (List.cons.inj hv).1
  obtain ⟨rfl, rfl, rfl, rfl⟩ := mm_go_inv hs
  have K0 : (∀ v ∈ .int x :: st, mm_vok S v) → W p l e R s m args below meth c H locs cells slots Q (F0 m (pc + 2) lm ((.int x :: st).map (mm_ad aa z))) := fun hv => K aa H locs lm cells slots rfl rfl (fun _ _ => rfl) I ⟨X.1, hv, X.2.2⟩
  exact lv_iload hx hb hd (mm_Lr_get X.2.2 hv (by simp)) (K0 (mm_p1 trivial X.2.1))

theorem mo_iload_n (k : Fin 4) : mm_Ok (.iload_n k) := by
  intro p l e R s m args below meth c Q D ca z A t XS d pc len ls st S pc2 ls2 st2 S2 aa H locs lm cells slots F I X hd hl hs hc hz K
  obtain ⟨hx, hb, hml, hown, hts, hnm, hcn, hK, hA, hdf, hdl⟩ := F
  obtain rfl : len = 1 := mm_lk_eq hl rfl (by decide)
  have hs : mm_i1 [mm_lg ls (k : Nat)] (fun x _ => mm_go (pc + 1) ls (.int x :: st) S) = _ := hs
  obtain ⟨x, r, hv, hs⟩ := mm_i1_inv hs
  have hv : mm_lg ls (k : Nat) = .int x := (List.cons.inj hv).1
  obtain ⟨rfl, rfl, rfl, rfl⟩ := mm_go_inv hs
  have K0 : (∀ v ∈ .int x :: st, mm_vok S v) → W p l e R s m args below meth c H locs cells slots Q (F0 m (pc + 1) lm ((.int x :: st).map (mm_ad aa z))) := fun hv => K aa H locs lm cells slots rfl rfl (fun _ _ => rfl) I ⟨X.1, hv, X.2.2⟩
  exact lv_iload_n hx hb hd rfl (mm_Lr_get X.2.2 hv (by simp)) (K0 (mm_p1 trivial X.2.1))

theorem mo_lload (k : Nat) : mm_Ok (.lload k) := by
  intro p l e R s m args below meth c Q D ca z A t XS d pc len ls st S pc2 ls2 st2 S2 aa H locs lm cells slots F I X hd hl hs hc hz K
  obtain ⟨hx, hb, hml, hown, hts, hnm, hcn, hK, hA, hdf, hdl⟩ := F
  obtain rfl : len = 2 := mm_lk_eq hl rfl (by decide)
  have hs : mm_j1 [mm_lg ls k] (fun x _ => mm_go (pc + 2) ls (.long x :: st) S) = _ := hs
  obtain ⟨x, r, hv, hs⟩ := mm_j1_inv hs
  have hv : mm_lg ls k = .long x := (List.cons.inj hv).1
  obtain ⟨rfl, rfl, rfl, rfl⟩ := mm_go_inv hs
  have K0 : (∀ v ∈ .long x :: st, mm_vok S v) → W p l e R s m args below meth c H locs cells slots Q (F0 m (pc + 2) lm ((.long x :: st).map (mm_ad aa z))) := fun hv => K aa H locs lm cells slots rfl rfl (fun _ _ => rfl) I ⟨X.1, hv, X.2.2⟩
  exact lv_lload hx hb hd (mm_Lr_get X.2.2 hv (by simp)) (K0 (mm_p1 trivial X.2.1))

theorem mo_lload_n (k : Fin 4) : mm_Ok (.lload_n k) := by
  intro p l e R s m args below meth c Q D ca z A t XS d pc len ls st S pc2 ls2 st2 S2 aa H locs lm cells slots F I X hd hl hs hc hz K
  obtain ⟨hx, hb, hml, hown, hts, hnm, hcn, hK, hA, hdf, hdl⟩ := F
  obtain rfl : len = 1 := mm_lk_eq hl rfl (by decide)
  have hs : mm_j1 [mm_lg ls (k : Nat)] (fun x _ => mm_go (pc + 1) ls (.long x :: st) S) = _ := hs
  obtain ⟨x, r, hv, hs⟩ := mm_j1_inv hs
  have hv : mm_lg ls (k : Nat) = .long x := (List.cons.inj hv).1
  obtain ⟨rfl, rfl, rfl, rfl⟩ := mm_go_inv hs
  have K0 : (∀ v ∈ .long x :: st, mm_vok S v) → W p l e R s m args below meth c H locs cells slots Q (F0 m (pc + 1) lm ((.long x :: st).map (mm_ad aa z))) := fun hv => K aa H locs lm cells slots rfl rfl (fun _ _ => rfl) I ⟨X.1, hv, X.2.2⟩
  exact lv_lload_n hx hb hd rfl (mm_Lr_get X.2.2 hv (by simp)) (K0 (mm_p1 trivial X.2.1))

theorem mo_aload (k : Nat) : mm_Ok (.aload k) := by
  intro p l e R s m args below meth c Q D ca z A t XS d pc len ls st S pc2 ls2 st2 S2 aa H locs lm cells slots F I X hd hl hs hc hz K
  obtain ⟨hx, hb, hml, hown, hts, hnm, hcn, hK, hA, hdf, hdl⟩ := F
  obtain rfl : len = 2 := mm_lk_eq hl rfl (by decide)
  have hs : mm_r1 [mm_lg ls k] (fun x _ => mm_go (pc + 2) ls (.ref x :: st) S) = _ := hs
  obtain ⟨x, r, hv, hs⟩ := mm_r1_inv hs
  have hv : mm_lg ls k = .ref x := (List.cons.inj hv).1
  obtain ⟨rfl, rfl, rfl, rfl⟩ := mm_go_inv hs
  have K0 : (∀ v ∈ .ref x :: st, mm_vok S v) → W p l e R s m args below meth c H locs cells slots Q (F0 m (pc + 2) lm ((.ref x :: st).map (mm_ad aa z))) := fun hv => K aa H locs lm cells slots rfl rfl (fun _ _ => rfl) I ⟨X.1, hv, X.2.2⟩
  exact lv_aload hx hb hd (mm_Lr_get X.2.2 hv (by simp)) (K0 (mm_p1 (hv ▸ mm_lg_vok X.1 k) X.2.1))

theorem mo_aload_n (k : Fin 4) : mm_Ok (.aload_n k) := by
  intro p l e R s m args below meth c Q D ca z A t XS d pc len ls st S pc2 ls2 st2 S2 aa H locs lm cells slots F I X hd hl hs hc hz K
  obtain ⟨hx, hb, hml, hown, hts, hnm, hcn, hK, hA, hdf, hdl⟩ := F
  obtain rfl : len = 1 := mm_lk_eq hl rfl (by decide)
  have hs : mm_r1 [mm_lg ls (k : Nat)] (fun x _ => mm_go (pc + 1) ls (.ref x :: st) S) = _ := hs
  obtain ⟨x, r, hv, hs⟩ := mm_r1_inv hs
  have hv : mm_lg ls (k : Nat) = .ref x := (List.cons.inj hv).1
  obtain ⟨rfl, rfl, rfl, rfl⟩ := mm_go_inv hs
  have K0 : (∀ v ∈ .ref x :: st, mm_vok S v) → W p l e R s m args below meth c H locs cells slots Q (F0 m (pc + 1) lm ((.ref x :: st).map (mm_ad aa z))) := fun hv => K aa H locs lm cells slots rfl rfl (fun _ _ => rfl) I ⟨X.1, hv, X.2.2⟩
  exact lv_aload_n hx hb hd rfl (mm_Lr_get X.2.2 hv (by simp)) (K0 (mm_p1 (hv ▸ mm_lg_vok X.1 (k : Nat)) X.2.1))

theorem mo_istore (k : Nat) : mm_Ok (.istore k) := by
  intro p l e R s m args below meth c Q D ca z A t XS d pc len ls st S pc2 ls2 st2 S2 aa H locs lm cells slots F I X hd hl hs hc hz K
  obtain ⟨hx, hb, hml, hown, hts, hnm, hcn, hK, hA, hdf, hdl⟩ := F
  obtain rfl : len = 2 := mm_lk_eq hl rfl (by decide)
  have hs : mm_i1 st (fun x r => mm_gd (decide (k < ls.length)) (mm_go (pc + 2) (mm_l1 ls k (.int x)) r S)) = _ := hs
  obtain ⟨x, r, rfl, hs⟩ := mm_i1_inv hs
  obtain ⟨hf, hs⟩ := mm_gd_inv hs
  have hk := of_decide_eq_true hf
  obtain ⟨rfl, rfl, rfl, rfl⟩ := mm_go_inv hs
  rw [X.2.2.1] at hk
  have hzc : z.category = 1 := I.2.2.2.2.1.2.2.2.2.1
  refine lv_istore hx hb hd  X.2.2.2 hk rfl (fun lm2 h => ?_)
  exact K aa H locs lm2 cells slots rfl rfl (fun _ _ => rfl) I ⟨mm_l1_vok X.1 trivial, mm_t1 X.2.1, mm_Lr_1 hzc X.2.2 h⟩

theorem mo_istore_n (k : Fin 4) : mm_Ok (.istore_n k) := by
  intro p l e R s m args below meth c Q D ca z A t XS d pc len ls st S pc2 ls2 st2 S2 aa H locs lm cells slots F I X hd hl hs hc hz K
  obtain ⟨hx, hb, hml, hown, hts, hnm, hcn, hK, hA, hdf, hdl⟩ := F
  obtain rfl : len = 1 := mm_lk_eq hl rfl (by decide)
  have hs : mm_i1 st (fun x r => mm_gd (decide ((k : Nat) < ls.length)) (mm_go (pc + 1) (mm_l1 ls (k : Nat) (.int x)) r S)) = _ := hs
  obtain ⟨x, r, rfl, hs⟩ := mm_i1_inv hs
  obtain ⟨hf, hs⟩ := mm_gd_inv hs
  have hk := of_decide_eq_true hf
  obtain ⟨rfl, rfl, rfl, rfl⟩ := mm_go_inv hs
  rw [X.2.2.1] at hk
  have hzc : z.category = 1 := I.2.2.2.2.1.2.2.2.2.1
  refine lv_istore_n hx hb hd rfl  X.2.2.2 hk rfl (fun lm2 h => ?_)
  exact K aa H locs lm2 cells slots rfl rfl (fun _ _ => rfl) I ⟨mm_l1_vok X.1 trivial, mm_t1 X.2.1, mm_Lr_1 hzc X.2.2 h⟩

theorem mo_lstore (k : Nat) : mm_Ok (.lstore k) := by
  intro p l e R s m args below meth c Q D ca z A t XS d pc len ls st S pc2 ls2 st2 S2 aa H locs lm cells slots F I X hd hl hs hc hz K
  obtain ⟨hx, hb, hml, hown, hts, hnm, hcn, hK, hA, hdf, hdl⟩ := F
  obtain rfl : len = 2 := mm_lk_eq hl rfl (by decide)
  have hs : mm_j1 st (fun x r => mm_gd (decide (k + 1 < ls.length)) (mm_go (pc + 2) (mm_l2 ls k (.long x)) r S)) = _ := hs
  obtain ⟨x, r, rfl, hs⟩ := mm_j1_inv hs
  obtain ⟨hf, hs⟩ := mm_gd_inv hs
  have hk := of_decide_eq_true hf
  obtain ⟨rfl, rfl, rfl, rfl⟩ := mm_go_inv hs
  rw [X.2.2.1] at hk
  have hzc : z.category = 1 := I.2.2.2.2.1.2.2.2.2.1
  refine lv_lstore hx hb hd  X.2.2.2 hk rfl (fun lm2 h => ?_)
  exact K aa H locs lm2 cells slots rfl rfl (fun _ _ => rfl) I ⟨mm_l2_vok X.1 trivial, mm_t1 X.2.1, mm_Lr_2 hzc X.2.2 h⟩

theorem mo_lstore_n (k : Fin 4) : mm_Ok (.lstore_n k) := by
  intro p l e R s m args below meth c Q D ca z A t XS d pc len ls st S pc2 ls2 st2 S2 aa H locs lm cells slots F I X hd hl hs hc hz K
  obtain ⟨hx, hb, hml, hown, hts, hnm, hcn, hK, hA, hdf, hdl⟩ := F
  obtain rfl : len = 1 := mm_lk_eq hl rfl (by decide)
  have hs : mm_j1 st (fun x r => mm_gd (decide ((k : Nat) + 1 < ls.length)) (mm_go (pc + 1) (mm_l2 ls (k : Nat) (.long x)) r S)) = _ := hs
  obtain ⟨x, r, rfl, hs⟩ := mm_j1_inv hs
  obtain ⟨hf, hs⟩ := mm_gd_inv hs
  have hk := of_decide_eq_true hf
  obtain ⟨rfl, rfl, rfl, rfl⟩ := mm_go_inv hs
  rw [X.2.2.1] at hk
  have hzc : z.category = 1 := I.2.2.2.2.1.2.2.2.2.1
  refine lv_lstore_n hx hb hd rfl  X.2.2.2 hk rfl (fun lm2 h => ?_)
  exact K aa H locs lm2 cells slots rfl rfl (fun _ _ => rfl) I ⟨mm_l2_vok X.1 trivial, mm_t1 X.2.1, mm_Lr_2 hzc X.2.2 h⟩

theorem mo_astore (k : Nat) : mm_Ok (.astore k) := by
  intro p l e R s m args below meth c Q D ca z A t XS d pc len ls st S pc2 ls2 st2 S2 aa H locs lm cells slots F I X hd hl hs hc hz K
  obtain ⟨hx, hb, hml, hown, hts, hnm, hcn, hK, hA, hdf, hdl⟩ := F
  obtain rfl : len = 2 := mm_lk_eq hl rfl (by decide)
  have hs : mm_r1 st (fun x r => mm_gd (decide (k < ls.length)) (mm_go (pc + 2) (mm_l1 ls k (.ref x)) r S)) = _ := hs
  obtain ⟨x, r, rfl, hs⟩ := mm_r1_inv hs
  obtain ⟨hf, hs⟩ := mm_gd_inv hs
  have hk := of_decide_eq_true hf
  obtain ⟨rfl, rfl, rfl, rfl⟩ := mm_go_inv hs
  rw [X.2.2.1] at hk
  have h0 : mm_vok S (.ref x) := X.2.1 _ List.mem_cons_self
  have hzc : z.category = 1 := I.2.2.2.2.1.2.2.2.2.1
  refine lv_astore hx hb hd  X.2.2.2 hk rfl (fun lm2 h => ?_)
  exact K aa H locs lm2 cells slots rfl rfl (fun _ _ => rfl) I ⟨mm_l1_vok X.1 h0, mm_t1 X.2.1, mm_Lr_1 hzc X.2.2 h⟩

theorem mo_astore_n (k : Fin 4) : mm_Ok (.astore_n k) := by
  intro p l e R s m args below meth c Q D ca z A t XS d pc len ls st S pc2 ls2 st2 S2 aa H locs lm cells slots F I X hd hl hs hc hz K
  obtain ⟨hx, hb, hml, hown, hts, hnm, hcn, hK, hA, hdf, hdl⟩ := F
  obtain rfl : len = 1 := mm_lk_eq hl rfl (by decide)
  have hs : mm_r1 st (fun x r => mm_gd (decide ((k : Nat) < ls.length)) (mm_go (pc + 1) (mm_l1 ls (k : Nat) (.ref x)) r S)) = _ := hs
  obtain ⟨x, r, rfl, hs⟩ := mm_r1_inv hs
  obtain ⟨hf, hs⟩ := mm_gd_inv hs
  have hk := of_decide_eq_true hf
  obtain ⟨rfl, rfl, rfl, rfl⟩ := mm_go_inv hs
  rw [X.2.2.1] at hk
  have h0 : mm_vok S (.ref x) := X.2.1 _ List.mem_cons_self
  have hzc : z.category = 1 := I.2.2.2.2.1.2.2.2.2.1
  refine lv_astore_n hx hb hd rfl  X.2.2.2 hk rfl (fun lm2 h => ?_)
  exact K aa H locs lm2 cells slots rfl rfl (fun _ _ => rfl) I ⟨mm_l1_vok X.1 h0, mm_t1 X.2.1, mm_Lr_1 hzc X.2.2 h⟩

theorem mo_iinc (k : Nat) (n : Int) : mm_Ok (.iinc k n) := by
  intro p l e R s m args below meth c Q D ca z A t XS d pc len ls st S pc2 ls2 st2 S2 aa H locs lm cells slots F I X hd hl hs hc hz K
  obtain ⟨hx, hb, hml, hown, hts, hnm, hcn, hK, hA, hdf, hdl⟩ := F
  obtain rfl : len = 3 := mm_lk_eq hl rfl (by decide)
  have hs : mm_i1 [mm_lg ls k] (fun x _ => mm_gd (decide (k < ls.length)) (mm_go (pc + 3) (mm_l1 ls k (.int (x + Int32.ofInt n))) st S)) = _ := hs
  obtain ⟨x, r, hv, hs⟩ := mm_i1_inv hs
  have hv : mm_lg ls k = .int x := (List.cons.inj hv).1
  obtain ⟨hf, hs⟩ := mm_gd_inv hs
  have hk := of_decide_eq_true hf
  obtain ⟨rfl, rfl, rfl, rfl⟩ := mm_go_inv hs
  have hm : (k, mm_ad aa z (.int x)) ∈ mm_la aa z ls := mm_la_mem.mpr ⟨_, hk, hv, by simp, rfl⟩
  obtain ⟨j, hj⟩ := List.getElem?_of_mem hm
  rw [X.2.2.1] at hk
  have hzc : z.category = 1 := I.2.2.2.2.1.2.2.2.2.1
  refine lv_iinc hx hb hd X.2.2.2 (k := j) hj rfl hk rfl (fun lm2 h => ?_)
  exact K aa H locs lm2 cells slots rfl rfl (fun _ _ => rfl) I ⟨mm_l1_vok X.1 trivial, X.2.1, mm_Lr_1 hzc X.2.2 h⟩

theorem mo_iadd : mm_Ok (.iadd) := by
  intro p l e R s m args below meth c Q D ca z A t XS d pc len ls st S pc2 ls2 st2 S2 aa H locs lm cells slots F I X hd hl hs hc hz K
  obtain ⟨hx, hb, hml, hown, hts, hnm, hcn, hK, hA, hdf, hdl⟩ := F
  obtain rfl : len = 1 := mm_lk_eq hl rfl (by decide)
  have hs : mm_i2 st (fun x y r => mm_go (pc + 1) ls (.int (x + y) :: r) S) = _ := hs
  obtain ⟨x, y, r, rfl, hs⟩ := mm_i2_inv hs
  obtain ⟨rfl, rfl, rfl, rfl⟩ := mm_go_inv hs
  have K0 : (∀ v ∈ .int (x + y) :: r, mm_vok S v) → W p l e R s m args below meth c H locs cells slots Q (F0 m (pc + 1) lm ((.int (x + y) :: r).map (mm_ad aa z))) := fun hv => K aa H locs lm cells slots rfl rfl (fun _ _ => rfl) I ⟨X.1, hv, X.2.2⟩
  exact lv_iadd hx hb hd (K0 (mm_p1 trivial (mm_t1 (mm_t1 X.2.1))))

theorem mo_isub : mm_Ok (.isub) := by
  intro p l e R s m args below meth c Q D ca z A t XS d pc len ls st S pc2 ls2 st2 S2 aa H locs lm cells slots F I X hd hl hs hc hz K
  obtain ⟨hx, hb, hml, hown, hts, hnm, hcn, hK, hA, hdf, hdl⟩ := F
  obtain rfl : len = 1 := mm_lk_eq hl rfl (by decide)
  have hs : mm_i2 st (fun x y r => mm_go (pc + 1) ls (.int (x - y) :: r) S) = _ := hs
  obtain ⟨x, y, r, rfl, hs⟩ := mm_i2_inv hs
  obtain ⟨rfl, rfl, rfl, rfl⟩ := mm_go_inv hs
  have K0 : (∀ v ∈ .int (x - y) :: r, mm_vok S v) → W p l e R s m args below meth c H locs cells slots Q (F0 m (pc + 1) lm ((.int (x - y) :: r).map (mm_ad aa z))) := fun hv => K aa H locs lm cells slots rfl rfl (fun _ _ => rfl) I ⟨X.1, hv, X.2.2⟩
  exact lv_isub hx hb hd (K0 (mm_p1 trivial (mm_t1 (mm_t1 X.2.1))))

theorem mo_imul : mm_Ok (.imul) := by
  intro p l e R s m args below meth c Q D ca z A t XS d pc len ls st S pc2 ls2 st2 S2 aa H locs lm cells slots F I X hd hl hs hc hz K
  obtain ⟨hx, hb, hml, hown, hts, hnm, hcn, hK, hA, hdf, hdl⟩ := F
  obtain rfl : len = 1 := mm_lk_eq hl rfl (by decide)
  have hs : mm_i2 st (fun x y r => mm_go (pc + 1) ls (.int (x * y) :: r) S) = _ := hs
  obtain ⟨x, y, r, rfl, hs⟩ := mm_i2_inv hs
  obtain ⟨rfl, rfl, rfl, rfl⟩ := mm_go_inv hs
  have K0 : (∀ v ∈ .int (x * y) :: r, mm_vok S v) → W p l e R s m args below meth c H locs cells slots Q (F0 m (pc + 1) lm ((.int (x * y) :: r).map (mm_ad aa z))) := fun hv => K aa H locs lm cells slots rfl rfl (fun _ _ => rfl) I ⟨X.1, hv, X.2.2⟩
  exact lv_imul hx hb hd (K0 (mm_p1 trivial (mm_t1 (mm_t1 X.2.1))))

theorem mo_iand : mm_Ok (.iand) := by
  intro p l e R s m args below meth c Q D ca z A t XS d pc len ls st S pc2 ls2 st2 S2 aa H locs lm cells slots F I X hd hl hs hc hz K
  obtain ⟨hx, hb, hml, hown, hts, hnm, hcn, hK, hA, hdf, hdl⟩ := F
  obtain rfl : len = 1 := mm_lk_eq hl rfl (by decide)
  have hs : mm_i2 st (fun x y r => mm_go (pc + 1) ls (.int (x &&& y) :: r) S) = _ := hs
  obtain ⟨x, y, r, rfl, hs⟩ := mm_i2_inv hs
  obtain ⟨rfl, rfl, rfl, rfl⟩ := mm_go_inv hs
  have K0 : (∀ v ∈ .int (x &&& y) :: r, mm_vok S v) → W p l e R s m args below meth c H locs cells slots Q (F0 m (pc + 1) lm ((.int (x &&& y) :: r).map (mm_ad aa z))) := fun hv => K aa H locs lm cells slots rfl rfl (fun _ _ => rfl) I ⟨X.1, hv, X.2.2⟩
  exact lv_iand hx hb hd (K0 (mm_p1 trivial (mm_t1 (mm_t1 X.2.1))))

theorem mo_ior : mm_Ok (.ior) := by
  intro p l e R s m args below meth c Q D ca z A t XS d pc len ls st S pc2 ls2 st2 S2 aa H locs lm cells slots F I X hd hl hs hc hz K
  obtain ⟨hx, hb, hml, hown, hts, hnm, hcn, hK, hA, hdf, hdl⟩ := F
  obtain rfl : len = 1 := mm_lk_eq hl rfl (by decide)
  have hs : mm_i2 st (fun x y r => mm_go (pc + 1) ls (.int (x ||| y) :: r) S) = _ := hs
  obtain ⟨x, y, r, rfl, hs⟩ := mm_i2_inv hs
  obtain ⟨rfl, rfl, rfl, rfl⟩ := mm_go_inv hs
  have K0 : (∀ v ∈ .int (x ||| y) :: r, mm_vok S v) → W p l e R s m args below meth c H locs cells slots Q (F0 m (pc + 1) lm ((.int (x ||| y) :: r).map (mm_ad aa z))) := fun hv => K aa H locs lm cells slots rfl rfl (fun _ _ => rfl) I ⟨X.1, hv, X.2.2⟩
  exact lv_ior hx hb hd (K0 (mm_p1 trivial (mm_t1 (mm_t1 X.2.1))))

theorem mo_ixor : mm_Ok (.ixor) := by
  intro p l e R s m args below meth c Q D ca z A t XS d pc len ls st S pc2 ls2 st2 S2 aa H locs lm cells slots F I X hd hl hs hc hz K
  obtain ⟨hx, hb, hml, hown, hts, hnm, hcn, hK, hA, hdf, hdl⟩ := F
  obtain rfl : len = 1 := mm_lk_eq hl rfl (by decide)
  have hs : mm_i2 st (fun x y r => mm_go (pc + 1) ls (.int (x ^^^ y) :: r) S) = _ := hs
  obtain ⟨x, y, r, rfl, hs⟩ := mm_i2_inv hs
  obtain ⟨rfl, rfl, rfl, rfl⟩ := mm_go_inv hs
  have K0 : (∀ v ∈ .int (x ^^^ y) :: r, mm_vok S v) → W p l e R s m args below meth c H locs cells slots Q (F0 m (pc + 1) lm ((.int (x ^^^ y) :: r).map (mm_ad aa z))) := fun hv => K aa H locs lm cells slots rfl rfl (fun _ _ => rfl) I ⟨X.1, hv, X.2.2⟩
  exact lv_ixor hx hb hd (K0 (mm_p1 trivial (mm_t1 (mm_t1 X.2.1))))

theorem mo_idiv : mm_Ok (.idiv) := by
  intro p l e R s m args below meth c Q D ca z A t XS d pc len ls st S pc2 ls2 st2 S2 aa H locs lm cells slots F I X hd hl hs hc hz K
  obtain ⟨hx, hb, hml, hown, hts, hnm, hcn, hK, hA, hdf, hdl⟩ := F
  obtain rfl : len = 1 := mm_lk_eq hl rfl (by decide)
  have hs : mm_i2 st (fun x y r => mm_gd (!decide (y = 0)) (mm_go (pc + 1) ls (.int (x / y) :: r) S)) = _ := hs
  obtain ⟨x, y, r, rfl, hs⟩ := mm_i2_inv hs
  obtain ⟨hf, hs⟩ := mm_gd_inv hs
  have hne : ¬ y = 0 := by simpa using hf
  obtain ⟨rfl, rfl, rfl, rfl⟩ := mm_go_inv hs
  have K0 : (∀ v ∈ .int (x / y) :: r, mm_vok S v) → W p l e R s m args below meth c H locs cells slots Q (F0 m (pc + 1) lm ((.int (x / y) :: r).map (mm_ad aa z))) := fun hv => K aa H locs lm cells slots rfl rfl (fun _ _ => rfl) I ⟨X.1, hv, X.2.2⟩
  exact lv_idiv hx hb hd hne (K0 (mm_p1 trivial (mm_t1 (mm_t1 X.2.1))))

theorem mo_irem : mm_Ok (.irem) := by
  intro p l e R s m args below meth c Q D ca z A t XS d pc len ls st S pc2 ls2 st2 S2 aa H locs lm cells slots F I X hd hl hs hc hz K
  obtain ⟨hx, hb, hml, hown, hts, hnm, hcn, hK, hA, hdf, hdl⟩ := F
  obtain rfl : len = 1 := mm_lk_eq hl rfl (by decide)
  have hs : mm_i2 st (fun x y r => mm_gd (!decide (y = 0)) (mm_go (pc + 1) ls (.int (x - x / y * y) :: r) S)) = _ := hs
  obtain ⟨x, y, r, rfl, hs⟩ := mm_i2_inv hs
  obtain ⟨hf, hs⟩ := mm_gd_inv hs
  have hne : ¬ y = 0 := by simpa using hf
  obtain ⟨rfl, rfl, rfl, rfl⟩ := mm_go_inv hs
  have K0 : (∀ v ∈ .int (x - x / y * y) :: r, mm_vok S v) → W p l e R s m args below meth c H locs cells slots Q (F0 m (pc + 1) lm ((.int (x - x / y * y) :: r).map (mm_ad aa z))) := fun hv => K aa H locs lm cells slots rfl rfl (fun _ _ => rfl) I ⟨X.1, hv, X.2.2⟩
  exact lv_irem hx hb hd hne (K0 (mm_p1 trivial (mm_t1 (mm_t1 X.2.1))))

theorem mo_ishl : mm_Ok (.ishl) := by
  intro p l e R s m args below meth c Q D ca z A t XS d pc len ls st S pc2 ls2 st2 S2 aa H locs lm cells slots F I X hd hl hs hc hz K
  obtain ⟨hx, hb, hml, hown, hts, hnm, hcn, hK, hA, hdf, hdl⟩ := F
  obtain rfl : len = 1 := mm_lk_eq hl rfl (by decide)
  have hs : mm_i2 st (fun x y r => mm_go (pc + 1) ls (.int (x <<< (y &&& 31)) :: r) S) = _ := hs
  obtain ⟨x, y, r, rfl, hs⟩ := mm_i2_inv hs
  obtain ⟨rfl, rfl, rfl, rfl⟩ := mm_go_inv hs
  have K0 : (∀ v ∈ .int (x <<< (y &&& 31)) :: r, mm_vok S v) → W p l e R s m args below meth c H locs cells slots Q (F0 m (pc + 1) lm ((.int (x <<< (y &&& 31)) :: r).map (mm_ad aa z))) := fun hv => K aa H locs lm cells slots rfl rfl (fun _ _ => rfl) I ⟨X.1, hv, X.2.2⟩
  exact lv_ishl hx hb hd (K0 (mm_p1 trivial (mm_t1 (mm_t1 X.2.1))))

theorem mo_ishr : mm_Ok (.ishr) := by
  intro p l e R s m args below meth c Q D ca z A t XS d pc len ls st S pc2 ls2 st2 S2 aa H locs lm cells slots F I X hd hl hs hc hz K
  obtain ⟨hx, hb, hml, hown, hts, hnm, hcn, hK, hA, hdf, hdl⟩ := F
  obtain rfl : len = 1 := mm_lk_eq hl rfl (by decide)
  have hs : mm_i2 st (fun x y r => mm_go (pc + 1) ls (.int (x >>> (y &&& 31)) :: r) S) = _ := hs
  obtain ⟨x, y, r, rfl, hs⟩ := mm_i2_inv hs
  obtain ⟨rfl, rfl, rfl, rfl⟩ := mm_go_inv hs
  have K0 : (∀ v ∈ .int (x >>> (y &&& 31)) :: r, mm_vok S v) → W p l e R s m args below meth c H locs cells slots Q (F0 m (pc + 1) lm ((.int (x >>> (y &&& 31)) :: r).map (mm_ad aa z))) := fun hv => K aa H locs lm cells slots rfl rfl (fun _ _ => rfl) I ⟨X.1, hv, X.2.2⟩
  exact lv_ishr hx hb hd (K0 (mm_p1 trivial (mm_t1 (mm_t1 X.2.1))))

theorem mo_iushr : mm_Ok (.iushr) := by
  intro p l e R s m args below meth c Q D ca z A t XS d pc len ls st S pc2 ls2 st2 S2 aa H locs lm cells slots F I X hd hl hs hc hz K
  obtain ⟨hx, hb, hml, hown, hts, hnm, hcn, hK, hA, hdf, hdl⟩ := F
  obtain rfl : len = 1 := mm_lk_eq hl rfl (by decide)
  have hs : mm_i2 st (fun x y r => mm_go (pc + 1) ls (.int (x.toUInt32 >>> (y.toUInt32 &&& Int32.toUInt32 31)).toInt32 :: r) S) = _ := hs
  obtain ⟨x, y, r, rfl, hs⟩ := mm_i2_inv hs
  obtain ⟨rfl, rfl, rfl, rfl⟩ := mm_go_inv hs
  have K0 : (∀ v ∈ .int (x.toUInt32 >>> (y.toUInt32 &&& Int32.toUInt32 31)).toInt32 :: r, mm_vok S v) → W p l e R s m args below meth c H locs cells slots Q (F0 m (pc + 1) lm ((.int (x.toUInt32 >>> (y.toUInt32 &&& Int32.toUInt32 31)).toInt32 :: r).map (mm_ad aa z))) := fun hv => K aa H locs lm cells slots rfl rfl (fun _ _ => rfl) I ⟨X.1, hv, X.2.2⟩
  exact lv_iushr hx hb hd rfl (K0 (mm_p1 trivial (mm_t1 (mm_t1 X.2.1))))

theorem mo_ladd : mm_Ok (.ladd) := by
  intro p l e R s m args below meth c Q D ca z A t XS d pc len ls st S pc2 ls2 st2 S2 aa H locs lm cells slots F I X hd hl hs hc hz K
  obtain ⟨hx, hb, hml, hown, hts, hnm, hcn, hK, hA, hdf, hdl⟩ := F
  obtain rfl : len = 1 := mm_lk_eq hl rfl (by decide)
  have hs : mm_j2 st (fun x y r => mm_go (pc + 1) ls (.long (x + y) :: r) S) = _ := hs
  obtain ⟨x, y, r, rfl, hs⟩ := mm_j2_inv hs
  obtain ⟨rfl, rfl, rfl, rfl⟩ := mm_go_inv hs
  have K0 : (∀ v ∈ .long (x + y) :: r, mm_vok S v) → W p l e R s m args below meth c H locs cells slots Q (F0 m (pc + 1) lm ((.long (x + y) :: r).map (mm_ad aa z))) := fun hv => K aa H locs lm cells slots rfl rfl (fun _ _ => rfl) I ⟨X.1, hv, X.2.2⟩
  exact lv_ladd hx hb hd (K0 (mm_p1 trivial (mm_t1 (mm_t1 X.2.1))))

theorem mo_lsub : mm_Ok (.lsub) := by
  intro p l e R s m args below meth c Q D ca z A t XS d pc len ls st S pc2 ls2 st2 S2 aa H locs lm cells slots F I X hd hl hs hc hz K
  obtain ⟨hx, hb, hml, hown, hts, hnm, hcn, hK, hA, hdf, hdl⟩ := F
  obtain rfl : len = 1 := mm_lk_eq hl rfl (by decide)
  have hs : mm_j2 st (fun x y r => mm_go (pc + 1) ls (.long (x - y) :: r) S) = _ := hs
  obtain ⟨x, y, r, rfl, hs⟩ := mm_j2_inv hs
  obtain ⟨rfl, rfl, rfl, rfl⟩ := mm_go_inv hs
  have K0 : (∀ v ∈ .long (x - y) :: r, mm_vok S v) → W p l e R s m args below meth c H locs cells slots Q (F0 m (pc + 1) lm ((.long (x - y) :: r).map (mm_ad aa z))) := fun hv => K aa H locs lm cells slots rfl rfl (fun _ _ => rfl) I ⟨X.1, hv, X.2.2⟩
  exact lv_lsub hx hb hd (K0 (mm_p1 trivial (mm_t1 (mm_t1 X.2.1))))

theorem mo_lmul : mm_Ok (.lmul) := by
  intro p l e R s m args below meth c Q D ca z A t XS d pc len ls st S pc2 ls2 st2 S2 aa H locs lm cells slots F I X hd hl hs hc hz K
  obtain ⟨hx, hb, hml, hown, hts, hnm, hcn, hK, hA, hdf, hdl⟩ := F
  obtain rfl : len = 1 := mm_lk_eq hl rfl (by decide)
  have hs : mm_j2 st (fun x y r => mm_go (pc + 1) ls (.long (x * y) :: r) S) = _ := hs
  obtain ⟨x, y, r, rfl, hs⟩ := mm_j2_inv hs
  obtain ⟨rfl, rfl, rfl, rfl⟩ := mm_go_inv hs
  have K0 : (∀ v ∈ .long (x * y) :: r, mm_vok S v) → W p l e R s m args below meth c H locs cells slots Q (F0 m (pc + 1) lm ((.long (x * y) :: r).map (mm_ad aa z))) := fun hv => K aa H locs lm cells slots rfl rfl (fun _ _ => rfl) I ⟨X.1, hv, X.2.2⟩
  exact lv_lmul hx hb hd (K0 (mm_p1 trivial (mm_t1 (mm_t1 X.2.1))))

theorem mo_land : mm_Ok (.land) := by
  intro p l e R s m args below meth c Q D ca z A t XS d pc len ls st S pc2 ls2 st2 S2 aa H locs lm cells slots F I X hd hl hs hc hz K
  obtain ⟨hx, hb, hml, hown, hts, hnm, hcn, hK, hA, hdf, hdl⟩ := F
  obtain rfl : len = 1 := mm_lk_eq hl rfl (by decide)
  have hs : mm_j2 st (fun x y r => mm_go (pc + 1) ls (.long (x &&& y) :: r) S) = _ := hs
  obtain ⟨x, y, r, rfl, hs⟩ := mm_j2_inv hs
  obtain ⟨rfl, rfl, rfl, rfl⟩ := mm_go_inv hs
  have K0 : (∀ v ∈ .long (x &&& y) :: r, mm_vok S v) → W p l e R s m args below meth c H locs cells slots Q (F0 m (pc + 1) lm ((.long (x &&& y) :: r).map (mm_ad aa z))) := fun hv => K aa H locs lm cells slots rfl rfl (fun _ _ => rfl) I ⟨X.1, hv, X.2.2⟩
  exact lv_land hx hb hd (K0 (mm_p1 trivial (mm_t1 (mm_t1 X.2.1))))

theorem mo_lor : mm_Ok (.lor) := by
  intro p l e R s m args below meth c Q D ca z A t XS d pc len ls st S pc2 ls2 st2 S2 aa H locs lm cells slots F I X hd hl hs hc hz K
  obtain ⟨hx, hb, hml, hown, hts, hnm, hcn, hK, hA, hdf, hdl⟩ := F
  obtain rfl : len = 1 := mm_lk_eq hl rfl (by decide)
  have hs : mm_j2 st (fun x y r => mm_go (pc + 1) ls (.long (x ||| y) :: r) S) = _ := hs
  obtain ⟨x, y, r, rfl, hs⟩ := mm_j2_inv hs
  obtain ⟨rfl, rfl, rfl, rfl⟩ := mm_go_inv hs
  have K0 : (∀ v ∈ .long (x ||| y) :: r, mm_vok S v) → W p l e R s m args below meth c H locs cells slots Q (F0 m (pc + 1) lm ((.long (x ||| y) :: r).map (mm_ad aa z))) := fun hv => K aa H locs lm cells slots rfl rfl (fun _ _ => rfl) I ⟨X.1, hv, X.2.2⟩
  exact lv_lor hx hb hd (K0 (mm_p1 trivial (mm_t1 (mm_t1 X.2.1))))

theorem mo_ldiv : mm_Ok (.ldiv) := by
  intro p l e R s m args below meth c Q D ca z A t XS d pc len ls st S pc2 ls2 st2 S2 aa H locs lm cells slots F I X hd hl hs hc hz K
  obtain ⟨hx, hb, hml, hown, hts, hnm, hcn, hK, hA, hdf, hdl⟩ := F
  obtain rfl : len = 1 := mm_lk_eq hl rfl (by decide)
  have hs : mm_j2 st (fun x y r => mm_gd (!decide (y = 0)) (mm_go (pc + 1) ls (.long (x / y) :: r) S)) = _ := hs
  obtain ⟨x, y, r, rfl, hs⟩ := mm_j2_inv hs
  obtain ⟨hf, hs⟩ := mm_gd_inv hs
  have hne : ¬ y = 0 := by simpa using hf
  obtain ⟨rfl, rfl, rfl, rfl⟩ := mm_go_inv hs
  have K0 : (∀ v ∈ .long (x / y) :: r, mm_vok S v) → W p l e R s m args below meth c H locs cells slots Q (F0 m (pc + 1) lm ((.long (x / y) :: r).map (mm_ad aa z))) := fun hv => K aa H locs lm cells slots rfl rfl (fun _ _ => rfl) I ⟨X.1, hv, X.2.2⟩
  exact lv_ldiv hx hb hd hne (K0 (mm_p1 trivial (mm_t1 (mm_t1 X.2.1))))

theorem mo_lrem : mm_Ok (.lrem) := by
  intro p l e R s m args below meth c Q D ca z A t XS d pc len ls st S pc2 ls2 st2 S2 aa H locs lm cells slots F I X hd hl hs hc hz K
  obtain ⟨hx, hb, hml, hown, hts, hnm, hcn, hK, hA, hdf, hdl⟩ := F
  obtain rfl : len = 1 := mm_lk_eq hl rfl (by decide)
  have hs : mm_j2 st (fun x y r => mm_gd (!decide (y = 0)) (mm_go (pc + 1) ls (.long (x - x / y * y) :: r) S)) = _ := hs
  obtain ⟨x, y, r, rfl, hs⟩ := mm_j2_inv hs
  obtain ⟨hf, hs⟩ := mm_gd_inv hs
  have hne : ¬ y = 0 := by simpa using hf
  obtain ⟨rfl, rfl, rfl, rfl⟩ := mm_go_inv hs
  have K0 : (∀ v ∈ .long (x - x / y * y) :: r, mm_vok S v) → W p l e R s m args below meth c H locs cells slots Q (F0 m (pc + 1) lm ((.long (x - x / y * y) :: r).map (mm_ad aa z))) := fun hv => K aa H locs lm cells slots rfl rfl (fun _ _ => rfl) I ⟨X.1, hv, X.2.2⟩
  exact lv_lrem hx hb hd hne (K0 (mm_p1 trivial (mm_t1 (mm_t1 X.2.1))))

theorem mo_lcmp : mm_Ok (.lcmp) := by
  intro p l e R s m args below meth c Q D ca z A t XS d pc len ls st S pc2 ls2 st2 S2 aa H locs lm cells slots F I X hd hl hs hc hz K
  obtain ⟨hx, hb, hml, hown, hts, hnm, hcn, hK, hA, hdf, hdl⟩ := F
  obtain rfl : len = 1 := mm_lk_eq hl rfl (by decide)
  have hs : mm_j2 st (fun x y r => mm_go (pc + 1) ls (.int (lg_cmp x y) :: r) S) = _ := hs
  obtain ⟨x, y, r, rfl, hs⟩ := mm_j2_inv hs
  obtain ⟨rfl, rfl, rfl, rfl⟩ := mm_go_inv hs
  have K0 : (∀ v ∈ .int (lg_cmp x y) :: r, mm_vok S v) → W p l e R s m args below meth c H locs cells slots Q (F0 m (pc + 1) lm ((.int (lg_cmp x y) :: r).map (mm_ad aa z))) := fun hv => K aa H locs lm cells slots rfl rfl (fun _ _ => rfl) I ⟨X.1, hv, X.2.2⟩
  exact W.lcmp hx hb hd (K0 (mm_p1 trivial (mm_t1 (mm_t1 X.2.1))))

theorem mo_lshl : mm_Ok (.lshl) := by
  intro p l e R s m args below meth c Q D ca z A t XS d pc len ls st S pc2 ls2 st2 S2 aa H locs lm cells slots F I X hd hl hs hc hz K
  obtain ⟨hx, hb, hml, hown, hts, hnm, hcn, hK, hA, hdf, hdl⟩ := F
  obtain rfl : len = 1 := mm_lk_eq hl rfl (by decide)
  have hs : mm_i1 st (fun y r => mm_j1 r fun x r => mm_go (pc + 1) ls (.long (x <<< (y.toInt64 &&& 63)) :: r) S) = _ := hs
  obtain ⟨y, r, rfl, hs⟩ := mm_i1_inv hs
  obtain ⟨x, r, rfl, hs⟩ := mm_j1_inv hs
  obtain ⟨rfl, rfl, rfl, rfl⟩ := mm_go_inv hs
  have K0 : (∀ v ∈ .long (x <<< (y.toInt64 &&& 63)) :: r, mm_vok S v) → W p l e R s m args below meth c H locs cells slots Q (F0 m (pc + 1) lm ((.long (x <<< (y.toInt64 &&& 63)) :: r).map (mm_ad aa z))) := fun hv => K aa H locs lm cells slots rfl rfl (fun _ _ => rfl) I ⟨X.1, hv, X.2.2⟩
  exact lv_lshl hx hb hd rfl (K0 (mm_p1 trivial (mm_t1 (mm_t1 X.2.1))))

theorem mo_ineg : mm_Ok (.ineg) := by
  intro p l e R s m args below meth c Q D ca z A t XS d pc len ls st S pc2 ls2 st2 S2 aa H locs lm cells slots F I X hd hl hs hc hz K
  obtain ⟨hx, hb, hml, hown, hts, hnm, hcn, hK, hA, hdf, hdl⟩ := F
  obtain rfl : len = 1 := mm_lk_eq hl rfl (by decide)
  have hs : mm_i1 st (fun x r => mm_go (pc + 1) ls (.int (-x) :: r) S) = _ := hs
  obtain ⟨x, r, rfl, hs⟩ := mm_i1_inv hs
  obtain ⟨rfl, rfl, rfl, rfl⟩ := mm_go_inv hs
  have K0 : (∀ v ∈ .int (-x) :: r, mm_vok S v) → W p l e R s m args below meth c H locs cells slots Q (F0 m (pc + 1) lm ((.int (-x) :: r).map (mm_ad aa z))) := fun hv => K aa H locs lm cells slots rfl rfl (fun _ _ => rfl) I ⟨X.1, hv, X.2.2⟩
  exact lv_ineg hx hb hd (K0 (mm_p1 trivial (mm_t1 X.2.1)))

theorem mo_i2l : mm_Ok (.i2l) := by
  intro p l e R s m args below meth c Q D ca z A t XS d pc len ls st S pc2 ls2 st2 S2 aa H locs lm cells slots F I X hd hl hs hc hz K
  obtain ⟨hx, hb, hml, hown, hts, hnm, hcn, hK, hA, hdf, hdl⟩ := F
  obtain rfl : len = 1 := mm_lk_eq hl rfl (by decide)
  have hs : mm_i1 st (fun x r => mm_go (pc + 1) ls (.long x.toInt64 :: r) S) = _ := hs
  obtain ⟨x, r, rfl, hs⟩ := mm_i1_inv hs
  obtain ⟨rfl, rfl, rfl, rfl⟩ := mm_go_inv hs
  have K0 : (∀ v ∈ .long x.toInt64 :: r, mm_vok S v) → W p l e R s m args below meth c H locs cells slots Q (F0 m (pc + 1) lm ((.long x.toInt64 :: r).map (mm_ad aa z))) := fun hv => K aa H locs lm cells slots rfl rfl (fun _ _ => rfl) I ⟨X.1, hv, X.2.2⟩
  exact lv_i2l hx hb hd rfl (K0 (mm_p1 trivial (mm_t1 X.2.1)))

theorem mo_i2b : mm_Ok (.i2b) := by
  intro p l e R s m args below meth c Q D ca z A t XS d pc len ls st S pc2 ls2 st2 S2 aa H locs lm cells slots F I X hd hl hs hc hz K
  obtain ⟨hx, hb, hml, hown, hts, hnm, hcn, hK, hA, hdf, hdl⟩ := F
  obtain rfl : len = 1 := mm_lk_eq hl rfl (by decide)
  have hs : mm_i1 st (fun x r => mm_go (pc + 1) ls (.int x.toInt8.toInt32 :: r) S) = _ := hs
  obtain ⟨x, r, rfl, hs⟩ := mm_i1_inv hs
  obtain ⟨rfl, rfl, rfl, rfl⟩ := mm_go_inv hs
  have K0 : (∀ v ∈ .int x.toInt8.toInt32 :: r, mm_vok S v) → W p l e R s m args below meth c H locs cells slots Q (F0 m (pc + 1) lm ((.int x.toInt8.toInt32 :: r).map (mm_ad aa z))) := fun hv => K aa H locs lm cells slots rfl rfl (fun _ _ => rfl) I ⟨X.1, hv, X.2.2⟩
  exact lv_i2b hx hb hd rfl (K0 (mm_p1 trivial (mm_t1 X.2.1)))

theorem mo_i2s : mm_Ok (.i2s) := by
  intro p l e R s m args below meth c Q D ca z A t XS d pc len ls st S pc2 ls2 st2 S2 aa H locs lm cells slots F I X hd hl hs hc hz K
  obtain ⟨hx, hb, hml, hown, hts, hnm, hcn, hK, hA, hdf, hdl⟩ := F
  obtain rfl : len = 1 := mm_lk_eq hl rfl (by decide)
  have hs : mm_i1 st (fun x r => mm_go (pc + 1) ls (.int x.toInt16.toInt32 :: r) S) = _ := hs
  obtain ⟨x, r, rfl, hs⟩ := mm_i1_inv hs
  obtain ⟨rfl, rfl, rfl, rfl⟩ := mm_go_inv hs
  have K0 : (∀ v ∈ .int x.toInt16.toInt32 :: r, mm_vok S v) → W p l e R s m args below meth c H locs cells slots Q (F0 m (pc + 1) lm ((.int x.toInt16.toInt32 :: r).map (mm_ad aa z))) := fun hv => K aa H locs lm cells slots rfl rfl (fun _ _ => rfl) I ⟨X.1, hv, X.2.2⟩
  exact lv_i2s hx hb hd rfl (K0 (mm_p1 trivial (mm_t1 X.2.1)))

theorem mo_i2c : mm_Ok (.i2c) := by
  intro p l e R s m args below meth c Q D ca z A t XS d pc len ls st S pc2 ls2 st2 S2 aa H locs lm cells slots F I X hd hl hs hc hz K
  obtain ⟨hx, hb, hml, hown, hts, hnm, hcn, hK, hA, hdf, hdl⟩ := F
  obtain rfl : len = 1 := mm_lk_eq hl rfl (by decide)
  have hs : mm_i1 st (fun x r => mm_go (pc + 1) ls (.int (x.toUInt32 % 65536).toInt32 :: r) S) = _ := hs
  obtain ⟨x, r, rfl, hs⟩ := mm_i1_inv hs
  obtain ⟨rfl, rfl, rfl, rfl⟩ := mm_go_inv hs
  have K0 : (∀ v ∈ .int (x.toUInt32 % 65536).toInt32 :: r, mm_vok S v) → W p l e R s m args below meth c H locs cells slots Q (F0 m (pc + 1) lm ((.int (x.toUInt32 % 65536).toInt32 :: r).map (mm_ad aa z))) := fun hv => K aa H locs lm cells slots rfl rfl (fun _ _ => rfl) I ⟨X.1, hv, X.2.2⟩
  exact lv_i2c hx hb hd rfl (K0 (mm_p1 trivial (mm_t1 X.2.1)))

theorem mo_l2i : mm_Ok (.l2i) := by
  intro p l e R s m args below meth c Q D ca z A t XS d pc len ls st S pc2 ls2 st2 S2 aa H locs lm cells slots F I X hd hl hs hc hz K
  obtain ⟨hx, hb, hml, hown, hts, hnm, hcn, hK, hA, hdf, hdl⟩ := F
  obtain rfl : len = 1 := mm_lk_eq hl rfl (by decide)
  have hs : mm_j1 st (fun x r => mm_go (pc + 1) ls (.int x.toInt32 :: r) S) = _ := hs
  obtain ⟨x, r, rfl, hs⟩ := mm_j1_inv hs
  obtain ⟨rfl, rfl, rfl, rfl⟩ := mm_go_inv hs
  have K0 : (∀ v ∈ .int x.toInt32 :: r, mm_vok S v) → W p l e R s m args below meth c H locs cells slots Q (F0 m (pc + 1) lm ((.int x.toInt32 :: r).map (mm_ad aa z))) := fun hv => K aa H locs lm cells slots rfl rfl (fun _ _ => rfl) I ⟨X.1, hv, X.2.2⟩
  exact lv_l2i hx hb hd rfl (K0 (mm_p1 trivial (mm_t1 X.2.1)))

theorem mo_dup : mm_Ok (.dup) := by
  intro p l e R s m args below meth c Q D ca z A t XS d pc len ls st S pc2 ls2 st2 S2 aa H locs lm cells slots F I X hd hl hs hc hz K
  obtain ⟨hx, hb, hml, hown, hts, hnm, hcn, hK, hA, hdf, hdl⟩ := F
  obtain rfl : len = 1 := mm_lk_eq hl rfl (by decide)
  have hzc : z.category = 1 := I.2.2.2.2.1.2.2.2.2.1
  match st, X, hs with
  | v :: r, X, hs =>
    have hs : mm_gd (decide (v.category = 1)) (mm_go (pc + 1) ls (v :: v :: r) S) = _ := hs
    obtain ⟨hf, hs⟩ := mm_gd_inv hs
    have hf := of_decide_eq_true hf
    obtain ⟨rfl, rfl, rfl, rfl⟩ := mm_go_inv hs
    exact lv_dup hx hb hd ((mm_ad_cat hzc).trans hf) (K aa H locs lm cells slots rfl rfl (fun _ _ => rfl) I ⟨X.1, mm_p1 (X.2.1 _ List.mem_cons_self) X.2.1, X.2.2⟩)

theorem mo_pop : mm_Ok (.pop) := by
  intro p l e R s m args below meth c Q D ca z A t XS d pc len ls st S pc2 ls2 st2 S2 aa H locs lm cells slots F I X hd hl hs hc hz K
  obtain ⟨hx, hb, hml, hown, hts, hnm, hcn, hK, hA, hdf, hdl⟩ := F
  obtain rfl : len = 1 := mm_lk_eq hl rfl (by decide)
  have hzc : z.category = 1 := I.2.2.2.2.1.2.2.2.2.1
  match st, X, hs with
  | v :: r, X, hs =>
    have hs : mm_gd (decide (v.category = 1)) (mm_go (pc + 1) ls r S) = _ := hs
    obtain ⟨hf, hs⟩ := mm_gd_inv hs
    have hf := of_decide_eq_true hf
    obtain ⟨rfl, rfl, rfl, rfl⟩ := mm_go_inv hs
    exact lv_pop hx hb hd ((mm_ad_cat hzc).trans hf) (K aa H locs lm cells slots rfl rfl (fun _ _ => rfl) I ⟨X.1, mm_t1 X.2.1, X.2.2⟩)

theorem mo_dup2 : mm_Ok (.dup2) := by
  intro p l e R s m args below meth c Q D ca z A t XS d pc len ls st S pc2 ls2 st2 S2 aa H locs lm cells slots F I X hd hl hs hc hz K
  obtain ⟨hx, hb, hml, hown, hts, hnm, hcn, hK, hA, hdf, hdl⟩ := F
  obtain rfl : len = 1 := mm_lk_eq hl rfl (by decide)
  have hzc : z.category = 1 := I.2.2.2.2.1.2.2.2.2.1
  have h2 : ∀ (v w : Value) (r : List Value), mm_Sx aa z S t ls lm (v :: w :: r) → mm_gd (decide (v.category = 1) && decide (w.category = 1)) (mm_go (pc + 1) ls (v :: w :: v :: w :: r) S) = mm_go pc2 ls2 st2 S2 → W p l e R s m args below meth c H locs cells slots Q (F0 m pc lm ((v :: w :: r).map (mm_ad aa z))) := by
    intro v w r X hs
    obtain ⟨hf, hs⟩ := mm_gd_inv hs
    rw [Bool.and_eq_true, decide_eq_true_eq, decide_eq_true_eq] at hf
    obtain ⟨rfl, rfl, rfl, rfl⟩ := mm_go_inv hs
    exact lv_dup2_11 hx hb hd ((mm_ad_cat hzc).trans hf.1) ((mm_ad_cat hzc).trans hf.2) (K aa H locs lm cells slots rfl rfl (fun _ _ => rfl) I ⟨X.1, mm_p1 (X.2.1 _ List.mem_cons_self) (mm_p1 (X.2.1 _ (List.mem_cons_of_mem _ List.mem_cons_self)) X.2.1), X.2.2⟩)
  match st, X, hs with
  | .long x :: r, X, hs =>
    obtain ⟨rfl, rfl, rfl, rfl⟩ := mm_go_inv hs
    exact lv_dup2_2 hx hb hd rfl (K aa H locs lm cells slots rfl rfl (fun _ _ => rfl) I ⟨X.1, mm_p1 trivial X.2.1, X.2.2⟩)
  | .int x :: w :: r, X, hs => exact h2 _ _ _ X hs
  | .ref x :: w :: r, X, hs => exact h2 _ _ _ X hs
  | .null :: w :: r, X, hs => exact h2 _ _ _ X hs
  | .float x :: w :: r, X, hs => exact h2 _ _ _ X hs
  | .double x :: w :: r, X, hs => exact h2 _ _ _ X hs
  | .retAddr x :: w :: r, X, hs => exact h2 _ _ _ X hs

theorem mo_goto (off : Int) : mm_Ok (.goto off) := by
  intro p l e R s m args below meth c Q D ca z A t XS d pc len ls st S pc2 ls2 st2 S2 aa H locs lm cells slots F I X hd hl hs hc hz K
  obtain ⟨hx, hb, hml, hown, hts, hnm, hcn, hK, hA, hdf, hdl⟩ := F
  obtain rfl : len = 3 := mm_lk_eq hl rfl (by decide)
  have hs : mm_jp pc off ls st S = _ := hs
  obtain ⟨ht, rfl, rfl, rfl⟩ := mm_jp_inv hs
  exact lv_goto hx hb hd ht (K aa H locs lm cells slots rfl rfl (fun _ _ => rfl) I X)

theorem mo_ifCond (cc : ClassFile.Cond) (off : Int) : mm_Ok (.ifCond cc off) := by
  intro p l e R s m args below meth c Q D ca z A t XS d pc len ls st S pc2 ls2 st2 S2 aa H locs lm cells slots F I X hd hl hs hc hz K
  obtain ⟨hx, hb, hml, hown, hts, hnm, hcn, hK, hA, hdf, hdl⟩ := F
  obtain rfl : len = 3 := mm_lk_eq hl rfl (by decide)
  have hs : mm_i1 st (fun x r => mm_cj (mm_c1 cc x) pc off ls r S) = _ := hs
  obtain ⟨x, r, rfl, hs⟩ := mm_i1_inv hs
  have X2 : mm_Sx aa z S t ls lm r := ⟨X.1, mm_t1 X.2.1, X.2.2⟩
  obtain ⟨tgt, ht, rfl, rfl, rfl, hq⟩ := mm_cj_inv hs
  have K2 : W p l e R s m args below meth c H locs cells slots Q (F0 m pc2 lm (r.map (mm_ad aa z))) := K aa H locs lm cells slots rfl rfl (fun _ _ => rfl) I X2
  cases cc with
  | eq =>
    have hq : ((decide (x = 0)) = true ∧ pc2 = tgt) ∨ ((decide (x = 0)) = false ∧ pc2 = pc + 3) := hq
    refine lv_if_eq hx hb hd ht (fun hT => ?_) (fun hT => ?_)
    · rcases hq with ⟨-, rfl⟩ | ⟨q, -⟩
      · exact K2
      · exact absurd q (by simp [hT])
    · rcases hq with ⟨q, -⟩ | ⟨-, rfl⟩
      · exact absurd q (by simp [hT])
      · exact K2
  | ne =>
    have hq : ((!decide (x = 0)) = true ∧ pc2 = tgt) ∨ ((!decide (x = 0)) = false ∧ pc2 = pc + 3) := hq
    refine lv_if_ne hx hb hd ht (fun hT => ?_) (fun hT => ?_)
    · rcases hq with ⟨-, rfl⟩ | ⟨q, -⟩
      · exact K2
      · exact absurd q (by simp [hT])
    · rcases hq with ⟨q, -⟩ | ⟨-, rfl⟩
      · exact absurd q (by simp [hT])
      · exact K2
  | lt =>
    have hq : ((decide (x < 0)) = true ∧ pc2 = tgt) ∨ ((decide (x < 0)) = false ∧ pc2 = pc + 3) := hq
    refine lv_if_lt hx hb hd ht (fun hT => ?_) (fun hT => ?_)
    · rcases hq with ⟨-, rfl⟩ | ⟨q, -⟩
      · exact K2
      · exact absurd q (by simp [hT])
    · rcases hq with ⟨q, -⟩ | ⟨-, rfl⟩
      · exact absurd q (by simp [hT])
      · exact K2
  | ge =>
    have hq : ((decide (0 ≤ x)) = true ∧ pc2 = tgt) ∨ ((decide (0 ≤ x)) = false ∧ pc2 = pc + 3) := hq
    refine lv_if_ge hx hb hd ht (fun hT => ?_) (fun hT => ?_)
    · rcases hq with ⟨-, rfl⟩ | ⟨q, -⟩
      · exact K2
      · exact absurd q (by simp [hT])
    · rcases hq with ⟨q, -⟩ | ⟨-, rfl⟩
      · exact absurd q (by simp [hT])
      · exact K2
  | gt =>
    have hq : ((decide (0 < x)) = true ∧ pc2 = tgt) ∨ ((decide (0 < x)) = false ∧ pc2 = pc + 3) := hq
    refine lv_if_gt hx hb hd ht (fun hT => ?_) (fun hT => ?_)
    · rcases hq with ⟨-, rfl⟩ | ⟨q, -⟩
      · exact K2
      · exact absurd q (by simp [hT])
    · rcases hq with ⟨q, -⟩ | ⟨-, rfl⟩
      · exact absurd q (by simp [hT])
      · exact K2
  | le =>
    have hq : ((decide (x ≤ 0)) = true ∧ pc2 = tgt) ∨ ((decide (x ≤ 0)) = false ∧ pc2 = pc + 3) := hq
    refine lv_if_le hx hb hd ht (fun hT => ?_) (fun hT => ?_)
    · rcases hq with ⟨-, rfl⟩ | ⟨q, -⟩
      · exact K2
      · exact absurd q (by simp [hT])
    · rcases hq with ⟨q, -⟩ | ⟨-, rfl⟩
      · exact absurd q (by simp [hT])
      · exact K2

theorem mo_if_icmp (cc : ClassFile.Cond) (off : Int) : mm_Ok (.if_icmp cc off) := by
  intro p l e R s m args below meth c Q D ca z A t XS d pc len ls st S pc2 ls2 st2 S2 aa H locs lm cells slots F I X hd hl hs hc hz K
  obtain ⟨hx, hb, hml, hown, hts, hnm, hcn, hK, hA, hdf, hdl⟩ := F
  obtain rfl : len = 3 := mm_lk_eq hl rfl (by decide)
  have hs : mm_i2 st (fun x y r => mm_cj (mm_c2 cc x y) pc off ls r S) = _ := hs
  obtain ⟨x, y, r, rfl, hs⟩ := mm_i2_inv hs
  have X2 : mm_Sx aa z S t ls lm r := ⟨X.1, mm_t1 (mm_t1 X.2.1), X.2.2⟩
  obtain ⟨tgt, ht, rfl, rfl, rfl, hq⟩ := mm_cj_inv hs
  have K2 : W p l e R s m args below meth c H locs cells slots Q (F0 m pc2 lm (r.map (mm_ad aa z))) := K aa H locs lm cells slots rfl rfl (fun _ _ => rfl) I X2
  cases cc with
  | eq =>
    have hq : ((decide (x = y)) = true ∧ pc2 = tgt) ∨ ((decide (x = y)) = false ∧ pc2 = pc + 3) := hq
    refine lv_icmp_eq hx hb hd ht (fun hT => ?_) (fun hT => ?_)
    · rcases hq with ⟨-, rfl⟩ | ⟨q, -⟩
      · exact K2
      · exact absurd q (by simp [hT])
    · rcases hq with ⟨q, -⟩ | ⟨-, rfl⟩
      · exact absurd q (by simp [hT])
      · exact K2
  | ne =>
    have hq : ((!decide (x = y)) = true ∧ pc2 = tgt) ∨ ((!decide (x = y)) = false ∧ pc2 = pc + 3) := hq
    refine lv_icmp_ne hx hb hd ht (fun hT => ?_) (fun hT => ?_)
    · rcases hq with ⟨-, rfl⟩ | ⟨q, -⟩
      · exact K2
      · exact absurd q (by simp [hT])
    · rcases hq with ⟨q, -⟩ | ⟨-, rfl⟩
      · exact absurd q (by simp [hT])
      · exact K2
  | lt =>
    have hq : ((decide (x < y)) = true ∧ pc2 = tgt) ∨ ((decide (x < y)) = false ∧ pc2 = pc + 3) := hq
    refine lv_icmp_lt hx hb hd ht (fun hT => ?_) (fun hT => ?_)
    · rcases hq with ⟨-, rfl⟩ | ⟨q, -⟩
      · exact K2
      · exact absurd q (by simp [hT])
    · rcases hq with ⟨q, -⟩ | ⟨-, rfl⟩
      · exact absurd q (by simp [hT])
      · exact K2
  | ge =>
    have hq : ((decide (y ≤ x)) = true ∧ pc2 = tgt) ∨ ((decide (y ≤ x)) = false ∧ pc2 = pc + 3) := hq
    refine lv_icmp_ge hx hb hd ht (fun hT => ?_) (fun hT => ?_)
    · rcases hq with ⟨-, rfl⟩ | ⟨q, -⟩
      · exact K2
      · exact absurd q (by simp [hT])
    · rcases hq with ⟨q, -⟩ | ⟨-, rfl⟩
      · exact absurd q (by simp [hT])
      · exact K2
  | gt =>
    have hq : ((decide (y < x)) = true ∧ pc2 = tgt) ∨ ((decide (y < x)) = false ∧ pc2 = pc + 3) := hq
    refine lv_icmp_gt hx hb hd ht (fun hT => ?_) (fun hT => ?_)
    · rcases hq with ⟨-, rfl⟩ | ⟨q, -⟩
      · exact K2
      · exact absurd q (by simp [hT])
    · rcases hq with ⟨q, -⟩ | ⟨-, rfl⟩
      · exact absurd q (by simp [hT])
      · exact K2
  | le =>
    have hq : ((decide (x ≤ y)) = true ∧ pc2 = tgt) ∨ ((decide (x ≤ y)) = false ∧ pc2 = pc + 3) := hq
    refine lv_icmp_le hx hb hd ht (fun hT => ?_) (fun hT => ?_)
    · rcases hq with ⟨-, rfl⟩ | ⟨q, -⟩
      · exact K2
      · exact absurd q (by simp [hT])
    · rcases hq with ⟨q, -⟩ | ⟨-, rfl⟩
      · exact absurd q (by simp [hT])
      · exact K2
end
section
/-! ===== instructions that look at the heap ===== -/
theorem mm_K0 {p : Program} {l : Launch} {e : Env} {R : Room} {s : State} {m : MethodId} {args : Array Value} {below : List Frame} {meth : Method} {c : Code} {Q : State → Prop} {D : va_G} {ca : Nat → ClassId} {z : Value} {A : Nat → Prop} {t : mm_mT} {XS : Nat × (Nat → Int32)} {aa : Nat → Nat} {S : mm_S} {cells slots pc2 : Nat} {ls st2 : List Value} {H : Heap} {locs : List Loc} {lm : Array Slot} (K : mm_Kx p l e R s m args below meth c Q D ca z A t XS aa S cells slots pc2 ls st2 S) (I : mm_Ix s D ca z A t XS aa S H locs) (X : mm_Sx aa z S t ls lm st2) : W p l e R s m args below meth c H locs cells slots Q (F0 m pc2 lm (st2.map (mm_ad aa z))) := K aa H locs lm cells slots rfl rfl (fun _ _ => rfl) I X
theorem mm_Xp {aa : Nat → Nat} {z : Value} {S : mm_S} {t : mm_mT} {ls : List Value} {lm : Array Slot} {st st2 : List Value} (X : mm_Sx aa z S t ls lm st) (h : (∀ v ∈ st, mm_vok S v) → ∀ v ∈ st2, mm_vok S v) : mm_Sx aa z S t ls lm st2 := ⟨X.1, h X.2.1, X.2.2⟩
theorem mm_isS_sp {a : Nat} (h : mm_isS a = true) : ∃ k : Nat, k < 12 ∧ a = 1000000 + 2 * k := by
  unfold mm_isS at h
  simp only [Bool.and_eq_true, decide_eq_true_eq] at h
  exact ⟨(a - 1000000) / 2, by omega, by omega⟩
theorem mo_tableswitch (df lo hi : Int) (offs : Array Int) : mm_Ok (.tableswitch df lo hi offs) := by
  intro p l e R s m args below meth c Q D ca z A t XS d pc len ls st S pc2 ls2 st2 S2 aa H locs lm cells slots F I X hd hl hs hc hz K
  obtain ⟨hx, hb, hml, hown, hts, hnm, hcn, hK, hA, hdf, hdl⟩ := F
  obtain ⟨x, r, rfl, hs1⟩ := mm_i1_inv hs
  clear hs
  have hs := hs1
  clear hs1
  by_cases h : x.toInt < lo ∨ hi < x.toInt
  · rw [if_pos h] at hs
    obtain ⟨ht, rfl, rfl, rfl⟩ := mm_jp_inv hs
    exact lv_tableOut hx hb hd h ht (mm_K0 K I (mm_Xp X mm_t1))
  · rw [if_neg h] at hs
    cases ho : offs[(x.toInt - lo).toNat]? with
    | none => rw [ho] at hs; cases hs
    | some off =>
      rw [ho] at hs
      obtain ⟨ht, rfl, rfl, rfl⟩ := mm_jp_inv hs
      exact lv_tableIn hx hb hd (fun q => h (Or.inl q)) (fun q => h (Or.inr q)) ho ht (mm_K0 K I (mm_Xp X mm_t1))
theorem mo_lookupswitch (df : Int) (ps : Array (Int × Int)) : mm_Ok (.lookupswitch df ps) := by
  intro p l e R s m args below meth c Q D ca z A t XS d pc len ls st S pc2 ls2 st2 S2 aa H locs lm cells slots F I X hd hl hs hc hz K
  obtain ⟨hx, hb, hml, hown, hts, hnm, hcn, hK, hA, hdf, hdl⟩ := F
  obtain ⟨x, r, rfl, hs1⟩ := mm_i1_inv hs
  clear hs
  have hs := hs1
  clear hs1
  obtain ⟨hp, hs⟩ := mm_gd_inv hs
  obtain ⟨ht, rfl, rfl, rfl⟩ := mm_jp_inv hs
  exact lv_lookup hx hb hd hp rfl ht (mm_K0 K I (mm_Xp X mm_t1))
theorem mo_ldc (i : Nat) : mm_Ok (.ldc i) := by
  intro p l e R s m args below meth c Q D ca z A t XS d pc len ls st S pc2 ls2 st2 S2 aa H locs lm cells slots F I X hd hl hs hc hz K
  obtain ⟨hx, hb, hml, hown, hts, hnm, hcn, hK, hA, hdf, hdl⟩ := F
  obtain rfl : len = 2 := mm_lk_eq hl rfl (by decide)
  unfold mm_st at hs
  cases hv : mm_fd mm_LC t.2.2.2.2 i with
  | none => simp only [hv] at hs; cases hs
  | some v =>
    simp only [hv] at hs
    obtain ⟨rfl, rfl, rfl, rfl⟩ := mm_go_inv hs
    rcases mm_LC_ok _ (mm_fd_mem hv) with ⟨w, g1, g2⟩ | ⟨k, hk, g1, g2, g3⟩
    · have h1 : v = .int w := g1
      subst h1
      exact lv_ldc hx hb hown (hts _ g2) hd (mm_K0 K I (mm_Xp X (mm_p1 trivial)))
    · have h1 : v = .ref (1000000 + 2 * k) := g1
      have h2 : t.2.2.2.2 = 5 := g2
      have h3 : i = (mm_sx k).1 := g3
      clear g1 g2 g3
      subst h1
      have K1 := mm_K0 K I (mm_Xp X (mm_p1 (v := .ref (1000000 + 2 * k)) (Or.inr (Nat.le_add_right _ _))))
      rw [List.map_cons, mm_ad_ref] at K1
      have hZ := I.2.2.2.2.1.2.1 k hk
      rw [← h3] at hZ
      have hown5 : s.vm.findClass "PennyMore$Reader" = some m.cls := by
        rw [h2] at hown
        exact hown
      exact va_ldcS hx hb hown5 hZ hd K1
theorem mo_ldc_w (i : Nat) : mm_Ok (.ldc_w i) := by
  intro p l e R s m args below meth c Q D ca z A t XS d pc len ls st S pc2 ls2 st2 S2 aa H locs lm cells slots F I X hd hl hs hc hz K
  obtain ⟨hx, hb, hml, hown, hts, hnm, hcn, hK, hA, hdf, hdl⟩ := F
  obtain rfl : len = 3 := mm_lk_eq hl rfl (by decide)
  unfold mm_st at hs
  cases hv : mm_fd mm_LC t.2.2.2.2 i with
  | none => simp only [hv] at hs; cases hs
  | some v =>
    simp only [hv] at hs
    cases v with
    | int v =>
      obtain ⟨rfl, rfl, rfl, rfl⟩ := mm_go_inv hs
      rcases mm_LC_ok _ (mm_fd_mem hv) with ⟨w, h1, h2⟩ | ⟨k, hk, h1, h2, h3⟩
      · have h1 : Value.int v = .int w := h1
        cases h1
        exact lv_ldcw hx hb hown (hts _ h2) hd (mm_K0 K I (mm_Xp X (mm_p1 trivial)))
      · cases h1
    | _ => cases hs
theorem mo_ldc2_w (i : Nat) : mm_Ok (.ldc2_w i) := by
  intro p l e R s m args below meth c Q D ca z A t XS d pc len ls st S pc2 ls2 st2 S2 aa H locs lm cells slots F I X hd hl hs hc hz K
  obtain ⟨hx, hb, hml, hown, hts, hnm, hcn, hK, hA, hdf, hdl⟩ := F
  obtain rfl : len = 3 := mm_lk_eq hl rfl (by decide)
  unfold mm_st at hs
  cases hv : mm_fd mm_L2 t.2.2.2.2 i with
  | none => simp only [hv] at hs; cases hs
  | some v =>
    simp only [hv] at hs
    obtain ⟨rfl, rfl, rfl, rfl⟩ := mm_go_inv hs
    exact lv_ldc2 hx hb hown (hts _ (mm_L2_ok _ (mm_fd_mem hv))) hd (mm_K0 K I (mm_Xp X (mm_p1 trivial)))
theorem mo_getstatic (i : Nat) : mm_Ok (.getstatic i) := by
  intro p l e R s m args below meth c Q D ca z A t XS d pc len ls st S pc2 ls2 st2 S2 aa H locs lm cells slots F I X hd hl hs hc hz K
  obtain ⟨hx, hb, hml, hown, hts, hnm, hcn, hK, hA, hdf, hdl⟩ := F
  obtain rfl : len = 3 := mm_lk_eq hl rfl (by decide)
  have hs : (if t.2.2.2.2 = 13 ∧ i = 38 then mm_go (pc + 3) ls (.int 1 :: st) S else if t.2.2.2.2 = 13 ∧ i = 1053 then mm_go (pc + 3) ls (mm_FM :: st) S else none) = mm_go pc2 ls2 st2 S2 := hs
  by_cases h1 : t.2.2.2.2 = 13 ∧ i = 38
  · rw [if_pos h1] at hs
    obtain ⟨rfl, rfl, rfl, rfl⟩ := mm_go_inv hs
    obtain ⟨h2, rfl⟩ := h1
    rw [h2] at hown
    exact va_gets hx hb I.2.2.2.2.1.2.2.1 I.2.2.1 hown (hts _ mm_gs1) (fun _ h => h) hd (mm_K0 K I (mm_Xp X (mm_p1 trivial)))
  · rw [if_neg h1] at hs
    by_cases h1 : t.2.2.2.2 = 13 ∧ i = 1053
    · rw [if_pos h1] at hs
      obtain ⟨rfl, rfl, rfl, rfl⟩ := mm_go_inv hs
      obtain ⟨h2, rfl⟩ := h1
      rw [h2] at hown
      have K1 := mm_K0 K I (mm_Xp X (mm_p1 (v := mm_FM) trivial))
      exact va_gets hx hb I.2.2.2.2.1.2.2.2.1 I.2.2.1 hown (hts _ mm_gs2) (fun _ h => h) hd K1
    · rw [if_neg h1] at hs
      cases hs
theorem mm_famT {f k : Nat} (hf : f = 0 ∨ mm_bk f = false) (h : mm_fam f k = true) : mm_T k = mm_T f ∧ mm_NF k = mm_NF f ∧ mm_tg k = mm_tg f := by
  unfold mm_fam at h
  by_cases h0 : f = 0
  · subst h0
    simp only [beq_self_eq_true, if_true, mm_bk, Bool.or_eq_true, beq_iff_eq] at h
    rcases h with (((((h|h)|h)|h)|h)|h)|h <;> subst h <;> refine ⟨rfl, rfl, ?_⟩ <;> funext j <;> (match j with
      | 0 => rfl
      | 1 => rfl
      | 2 => rfl
      | 3 => rfl
      | j + 4 => rfl)
  · simp only [beq_iff_eq, h0, if_false] at h
    subst h
    exact ⟨rfl, rfl, rfl⟩
theorem mm_obj_sp {S : mm_S} {a f : Nat} (h : mm_obj S a f = true) : a < mm_n S ∧ mm_K S a < 13 ∧ mm_fam f (mm_K S a) = true := by
  unfold mm_obj at h
  simp only [Bool.and_eq_true, decide_eq_true_eq] at h
  exact ⟨h.1.1, h.1.2, h.2⟩
theorem mm_fs_get {aa : Nat → Nat} {S : mm_S} {k i j : Nat} (h : j < mm_NF k) : (mm_fs aa S k i)[j]? = some (if mm_tg k j = 1 then .long (mm_L S i j) else if mm_tg k j = 2 then va_rf ((mm_R S i j).map aa) else .int (mm_M S i j)) := by
  simp [mm_fs, h]
theorem mm_fs_len {aa : Nat → Nat} {S : mm_S} {k i : Nat} : (mm_fs aa S k i).length = mm_NF k := by simp [mm_fs]
theorem mm_ce1_obj {ca : Nat → ClassId} {aa : Nat → Nat} {S : mm_S} {i : Nat} (h : mm_K S i < 13) : mm_ce1 ca aa S i = .inr (mm_K S i, mm_fs aa S (mm_K S i) i) := by
  unfold mm_ce1
  rw [if_pos h]
theorem mo_getfield (i : Nat) : mm_Ok (.getfield i) := by
  intro p l e R s m args below meth c Q D ca z A t XS d pc len ls st S pc2 ls2 st2 S2 aa H locs lm cells slots F I X hd hl hs hc hz K
  obtain ⟨hx, hb, hml, hown, hts, hnm, hcn, hK, hA, hdf, hdl⟩ := F
  obtain rfl : len = 3 := mm_lk_eq hl rfl (by decide)
  obtain ⟨a, r, rfl, hs1⟩ := mm_r1_inv hs
  clear hs
  have hs := hs1
  clear hs1
  by_cases h13 : t.2.2.2.2 = 13
  · rw [if_pos h13] at hs
    by_cases hS : mm_isS a = true
    · rw [if_pos hS] at hs
      obtain ⟨k, hk, rfl⟩ := mm_isS_sp hS
      rw [h13] at hown
      have hE := I.2.2.2.2.1.1.1 k hk
      by_cases h9 : i = 9
      · rw [if_pos h9] at hs
        obtain ⟨rfl, rfl, rfl, rfl⟩ := mm_go_inv hs
        subst h9
        have K1 := mm_K0 K I (mm_Xp X (fun h => mm_p1 (v := .ref (1000000 + 2 * k + 1)) (Or.inr (Nat.le_trans (Nat.le_add_right 1000000 (2 * k)) (Nat.le_succ _))) (mm_t1 h)))
        rw [List.map_cons, mm_ad_ref] at K1
        rw [List.map_cons, mm_ad_ref]
        exact vk_getf hx hb hE.2.2.1 I.2.2.1 hown (hts _ mm_gs3) (fun _ h => h) hd K1
      · rw [if_neg h9] at hs
        by_cases h15 : i = 15
        · rw [if_pos h15] at hs
          obtain ⟨rfl, rfl, rfl, rfl⟩ := mm_go_inv hs
          subst h15
          have K1 := mm_K0 K I (mm_Xp X (fun h => mm_p1 (v := .int 0) trivial (mm_t1 h)))
          rw [List.map_cons, mm_ad_ref]
          exact vk_getf hx hb hE.2.1 I.2.2.1 hown (hts _ mm_gs4) (fun _ h => h) hd K1
        · rw [if_neg h15] at hs; cases hs
    · rw [if_neg hS] at hs; cases hs
  · rw [if_neg h13] at hs
    cases hf : mm_fd mm_FL t.2.2.2.2 i with
    | none => rw [hf] at hs; cases hs
    | some e0 =>
      obtain ⟨f, k, tg, fi⟩ := e0
      simp only [hf] at hs
      cases hg : mm_gf S f k tg a with
      | none => rw [hg] at hs; cases hs
      | some v =>
        rw [hg] at hs
        obtain ⟨rfl, rfl, rfl, rfl⟩ := mm_go_inv hs
        obtain ⟨ref, w1, w2, w3, w4, w5, w6⟩ := mm_FL_ok _ (mm_fd_mem hf)
        simp only at w1 w2 w3 w4 w5 w6
        unfold mm_gf at hg
        by_cases ho : mm_obj S a f = true
        · rw [if_pos ho] at hg
          obtain ⟨ha, hk13, hfam⟩ := mm_obj_sp ho
          obtain ⟨t1, t2, t3⟩ := mm_famT w5.2 hfam
          have hcell := mm_ws_get (ca := ca) (aa := aa) ha
          rw [mm_ce1_obj hk13] at hcell
          have hkN : k < mm_NF (mm_K S a) := by rw [t2]; exact w3
          have hfv := mm_fs_get (aa := aa) (S := S) (i := a) hkN
          rw [t3, w4] at hfv
          have hvv : mm_vok S v ∧ mm_ad aa z v = (if tg = 1 then .long (mm_L S a k) else if tg = 2 then va_rf ((mm_R S a k).map aa) else .int (mm_M S a k)) := by
            by_cases g1 : tg = 1
            · rw [if_pos g1] at hg ⊢
              cases hg
              exact ⟨trivial, rfl⟩
            · rw [if_neg g1] at hg ⊢
              by_cases g2 : tg = 2
              · rw [if_pos g2] at hg ⊢
                cases hg
                have hlt : ∀ b, mm_R S a k = some b → b < mm_n S := I.2.2.2.1.1 a ha k
                refine ⟨?_, mm_ad_rv⟩
                cases hr : mm_R S a k with
                | none => exact trivial
                | some b => exact Or.inl (hlt b hr)
              · rw [if_neg g2] at hg ⊢
                cases hg
                exact ⟨trivial, rfl⟩
          have K1 := mm_K0 K I (mm_Xp X (fun h => mm_p1 hvv.1 (mm_t1 h)))
          rw [List.map_cons, hvv.2] at K1
          rw [List.map_cons, mm_ad_ref]
          refine va_get (C := mm_ck (mm_K S a)) (T := mm_T (mm_K S a)) (N := mm_NF (mm_K S a)) (ci := mm_K S a) (ref := ref) hx hb hts (mm_uws _ hk13) hown hK I.1 a hcell (mm_cls_get _ hk13) k hkN (by rw [t1]; exact hts _ w1) ?_ hfv hd K1
          rw [t1]
          rcases w2 with rfl | w2
          · exact fun _ h => h
          · exact u_same (hts _ w2)
        · rw [if_neg ho] at hg; cases hg
theorem mm_fs_sM {aa : Nat → Nat} {S : mm_S} {q a k : Nat} {x : Int32} (h1 : ¬ mm_tg q k = 1) (h2 : ¬ mm_tg q k = 2) : (mm_fs aa S q a).set k (.int x) = mm_fs aa (mm_sM S a (mm_u (mm_M S a) k x)) q a := by
  apply List.ext_getElem?
  intro j
  by_cases hj : j < mm_NF q
  · rw [mm_fs_get hj]
    have e1 : mm_M (mm_sM S a (mm_u (mm_M S a) k x)) a = mm_u (mm_M S a) k x := mm_u_self
    have e2 : mm_L (mm_sM S a (mm_u (mm_M S a) k x)) = mm_L S := rfl
    have e3 : mm_R (mm_sM S a (mm_u (mm_M S a) k x)) = mm_R S := rfl
    rw [e1, e2, e3]
    by_cases h : j = k
    · subst h
      rw [List.getElem?_set_self (by rw [mm_fs_len]; exact hj), if_neg h1, if_neg h2, mm_u_self]
    · rw [List.getElem?_set_ne (Ne.symm h), mm_fs_get hj, mm_u_ne h]
  · rw [List.getElem?_eq_none (by rw [List.length_set, mm_fs_len]; omega), List.getElem?_eq_none (by rw [mm_fs_len]; omega)]
theorem mm_fs_sL {aa : Nat → Nat} {S : mm_S} {q a k : Nat} {x : Int64} (h1 : mm_tg q k = 1) : (mm_fs aa S q a).set k (.long x) = mm_fs aa (mm_sL S a (mm_u (mm_L S a) k x)) q a := by
  apply List.ext_getElem?
  intro j
  by_cases hj : j < mm_NF q
  · rw [mm_fs_get hj]
    have e1 : mm_L (mm_sL S a (mm_u (mm_L S a) k x)) a = mm_u (mm_L S a) k x := mm_u_self
    have e2 : mm_M (mm_sL S a (mm_u (mm_L S a) k x)) = mm_M S := rfl
    have e3 : mm_R (mm_sL S a (mm_u (mm_L S a) k x)) = mm_R S := rfl
    rw [e1, e2, e3]
    by_cases h : j = k
    · subst h
      rw [List.getElem?_set_self (by rw [mm_fs_len]; exact hj), if_pos h1, mm_u_self]
    · rw [List.getElem?_set_ne (Ne.symm h), mm_fs_get hj, mm_u_ne h]
  · rw [List.getElem?_eq_none (by rw [List.length_set, mm_fs_len]; omega), List.getElem?_eq_none (by rw [mm_fs_len]; omega)]
theorem mm_fs_sR {aa : Nat → Nat} {S : mm_S} {q a k b : Nat} (h1 : mm_tg q k = 2) : (mm_fs aa S q a).set k (.ref (aa b)) = mm_fs aa (mm_sR S a (mm_u (mm_R S a) k (some b))) q a := by
  apply List.ext_getElem?
  intro j
  by_cases hj : j < mm_NF q
  · rw [mm_fs_get hj]
    have e1 : mm_R (mm_sR S a (mm_u (mm_R S a) k (some b))) a = mm_u (mm_R S a) k (some b) := mm_u_self
    have e2 : mm_M (mm_sR S a (mm_u (mm_R S a) k (some b))) = mm_M S := rfl
    have e3 : mm_L (mm_sR S a (mm_u (mm_R S a) k (some b))) = mm_L S := rfl
    rw [e1, e2, e3]
    by_cases h : j = k
    · subst h
      rw [List.getElem?_set_self (by rw [mm_fs_len]; exact hj), if_neg (by omega), if_pos h1, mm_u_self]
      rfl
    · rw [List.getElem?_set_ne (Ne.symm h), mm_fs_get hj, mm_u_ne h]
  · rw [List.getElem?_eq_none (by rw [List.length_set, mm_fs_len]; omega), List.getElem?_eq_none (by rw [mm_fs_len]; omega)]
theorem mm_wf_sR {S : mm_S} {a k : Nat} {o : Option Nat} (h : mm_wf S) (ho : ∀ b, o = some b → b < mm_n S) : mm_wf (mm_sR S a (mm_u (mm_R S a) k o)) := by
  refine ⟨fun i hi j b hb => ?_, h.2⟩
  have hb : mm_u (mm_R S) a (mm_u (mm_R S a) k o) i j = some b := hb
  by_cases h1 : i = a
  · subst h1
    rw [mm_u_self] at hb
    by_cases h2 : j = k
    · subst h2
      rw [mm_u_self] at hb
      exact ho b hb
    · rw [mm_u_ne h2] at hb
      exact h.1 i hi j b hb
  · rw [mm_u_ne h1] at hb
    exact h.1 i hi j b hb
/-- the script is none of the cells -/
theorem mm_Ix_sM {s : State} {D : va_G} {ca : Nat → ClassId} {z : Value} {A : Nat → Prop} {t : mm_mT} {XS : Nat × (Nat → Int32)} {aa : Nat → Nat} {S : mm_S} {H H1 : Heap} {locs locs1 : List Loc} {a : Nat} {f : Nat → Int32} (I : mm_Ix s D ca z A t XS aa S H locs) (ha : a < mm_n S) {e1 : va_E} (he : mm_ce1 ca aa (mm_sM S a f) a = e1) (h1 : va_P D mm_cl_s ((mm_ws ca aa S).set a (aa a, e1)) H1) (h2 : va_D A ((mm_ws ca aa S).set a (aa a, e1))) (h3 : va_S A s.heap H1 locs1) : mm_Ix s D ca z A t XS aa (mm_sM S a f) H1 locs1 := by
  have hset := mm_ws_set (ca := ca) (aa := aa) (S := S) (S' := mm_sM S a f) (i := a) he rfl mm_ce1_sM
  rw [hset] at h1 h2
  have hne : mm_SC ≠ a := by
    have := I.2.2.2.1.2
    show 3000000 ≠ a
    omega
  have hm : mm_M (mm_sM S a f) mm_SC = mm_M S mm_SC := mm_u_ne hne
  exact ⟨h1, h2, h3, I.2.2.2.1, I.2.2.2.2.1, I.2.2.2.2.2.1, hm.trans I.2.2.2.2.2.2.1, I.2.2.2.2.2.2.2⟩
theorem mm_Ix_sL {s : State} {D : va_G} {ca : Nat → ClassId} {z : Value} {A : Nat → Prop} {t : mm_mT} {XS : Nat × (Nat → Int32)} {aa : Nat → Nat} {S : mm_S} {H H1 : Heap} {locs locs1 : List Loc} {a : Nat} {f : Nat → Int64} (I : mm_Ix s D ca z A t XS aa S H locs) {e1 : va_E} (he : mm_ce1 ca aa (mm_sL S a f) a = e1) (h1 : va_P D mm_cl_s ((mm_ws ca aa S).set a (aa a, e1)) H1) (h2 : va_D A ((mm_ws ca aa S).set a (aa a, e1))) (h3 : va_S A s.heap H1 locs1) : mm_Ix s D ca z A t XS aa (mm_sL S a f) H1 locs1 := by
  have hset := mm_ws_set (ca := ca) (aa := aa) (S := S) (S' := mm_sL S a f) (i := a) he rfl mm_ce1_sL
  rw [hset] at h1 h2
  exact ⟨h1, h2, h3, I.2.2.2.1, I.2.2.2.2.1, I.2.2.2.2.2⟩
theorem mm_Ix_sR {s : State} {D : va_G} {ca : Nat → ClassId} {z : Value} {A : Nat → Prop} {t : mm_mT} {XS : Nat × (Nat → Int32)} {aa : Nat → Nat} {S : mm_S} {H H1 : Heap} {locs locs1 : List Loc} {a k : Nat} {o : Option Nat} (I : mm_Ix s D ca z A t XS aa S H locs) (ho : ∀ b, o = some b → b < mm_n S) {e1 : va_E} (he : mm_ce1 ca aa (mm_sR S a (mm_u (mm_R S a) k o)) a = e1) (h1 : va_P D mm_cl_s ((mm_ws ca aa S).set a (aa a, e1)) H1) (h2 : va_D A ((mm_ws ca aa S).set a (aa a, e1))) (h3 : va_S A s.heap H1 locs1) : mm_Ix s D ca z A t XS aa (mm_sR S a (mm_u (mm_R S a) k o)) H1 locs1 := by
  have hset := mm_ws_set (ca := ca) (aa := aa) (S := S) (S' := mm_sR S a (mm_u (mm_R S a) k o)) (i := a) he rfl mm_ce1_sR
  rw [hset] at h1 h2
  exact ⟨h1, h2, h3, mm_wf_sR I.2.2.2.1 ho, I.2.2.2.2.1, I.2.2.2.2.2⟩
theorem mo_putfield (i : Nat) : mm_Ok (.putfield i) := by
  intro p l e R s m args below meth c Q D ca z A t XS d pc len ls st S pc2 ls2 st2 S2 aa H locs lm cells slots F I X hd hl hs hc hz K
  obtain ⟨hx, hb, hml, hown, hts, hnm, hcn, hK, hA, hdf, hdl⟩ := F
  obtain rfl : len = 3 := mm_lk_eq hl rfl (by decide)
  obtain ⟨v, a, r, rfl, hs1⟩ := mm_pr_inv hs
  clear hs
  have hs := hs1
  clear hs1
  · cases hf : mm_fd mm_FL t.2.2.2.2 i with
    | none => rw [hf] at hs; cases hs
    | some e0 =>
      obtain ⟨f, k, tg, fi⟩ := e0
      simp only [hf] at hs
      obtain ⟨hfin, hs⟩ := mm_gd_inv hs
      cases hg : mm_pf S f k tg a v with
      | none => rw [hg] at hs; cases hs
      | some S1 =>
        rw [hg] at hs
        obtain ⟨rfl, rfl, rfl, rfl⟩ := mm_go_inv hs
        obtain ⟨ref, w1, w2, w3, w4, w5, w6⟩ := mm_FL_ok _ (mm_fd_mem hf)
        simp only at w1 w2 w3 w4 w5 w6
        unfold mm_pf at hg
        by_cases ho : mm_obj S a f = true
        · rw [if_pos ho] at hg
          obtain ⟨ha, hk13, hfam⟩ := mm_obj_sp ho
          obtain ⟨t1, t2, t3⟩ := mm_famT w5.2 hfam
          have hcell := mm_ws_get (ca := ca) (aa := aa) ha
          rw [mm_ce1_obj hk13] at hcell
          have hkN : k < mm_NF (mm_K S a) := by rw [t2]; exact w3
          have htg : mm_tg (mm_K S a) k = tg := by rw [t3]; exact w4
          have hty := mm_tgs _ hk13 k hkN
          rw [htg] at hty
          -- one row for every sort of value
          have go : ∀ (v1 : Value), mm_ad aa z v = v1 → narrow (mm_ty (mm_K S a) k) v1 = v1 → fits (mm_ty (mm_K S a) k) v1 = true → (∀ (H1 : Heap) (locs1 : List Loc), va_P D mm_cl_s ((mm_ws ca aa S).set a (aa a, .inr (mm_K S a, (mm_fs aa S (mm_K S a) a).set k v1))) H1 → va_D A ((mm_ws ca aa S).set a (aa a, .inr (mm_K S a, (mm_fs aa S (mm_K S a) a).set k v1))) → va_S A s.heap H1 locs1 → mm_Ix s D ca z A t XS aa S1 H1 locs1 ∧ mm_n S1 = mm_n S ∧ mm_z S1 = mm_z S) → W p l e R s m args below meth c H locs cells slots Q (F0 m pc lm ((v :: .ref a :: r).map (mm_ad aa z))) := by
            intro v1 hv1 hn1 hf1 hnext
            rw [List.map_cons, List.map_cons, mm_ad_ref, hv1]
            have kk : ∀ (H1 : Heap) (locs1 : List Loc), va_P D mm_cl_s ((mm_ws ca aa S).set a (aa a, .inr (mm_K S a, (mm_fs aa S (mm_K S a) a).set k v1))) H1 → va_D A ((mm_ws ca aa S).set a (aa a, .inr (mm_K S a, (mm_fs aa S (mm_K S a) a).set k v1))) → va_S A s.heap H1 locs1 → W p l e R s m args below meth c H1 locs1 cells slots Q (F0 m (pc + 3) lm (r.map (mm_ad aa z))) := by
              intro H1 locs1 a1 a2 a3
              obtain ⟨b1, b2, b3⟩ := hnext H1 locs1 a1 a2 a3
              have hvk : ∀ w, mm_vok S w → mm_vok S1 w := by
                intro w hw
                unfold mm_vok at hw ⊢
                rw [b2]
                exact hw
              exact K aa H1 locs1 lm cells slots (by rw [b2]) (by rw [b3]) (fun _ _ => rfl) b1 ⟨fun w hw => hvk w (X.1 w hw), fun w hw => hvk w (mm_t1 (mm_t1 X.2.1) w hw), X.2.2⟩
            have hsm : ∀ x, s.fieldFound? (mm_T (mm_K S a) k).1 (mm_T (mm_K S a) k).2.1 (mm_T (mm_K S a) k).2.2.1 = some x → s.fieldFound? ref (mm_T (mm_K S a) k).2.1 (mm_T (mm_K S a) k).2.2.1 = some x := by
              rw [t1]
              rcases w2 with rfl | w2
              · exact fun _ h => h
              · exact u_same (hts _ w2)
            rcases w6 with ⟨w6, w7⟩ | ⟨w6, w7⟩
            · exact va_put (C := mm_ck (mm_K S a)) (T := mm_T (mm_K S a)) (N := mm_NF (mm_K S a)) (ci := mm_K S a) (ref := ref) hx hb hts (mm_uws _ hk13) (mm_ty (mm_K S a)) (mm_tys _ hk13) (mm_nms _ hk13) hown hK I.1 I.2.1 I.2.2.1 a hcell (mm_cls_get _ hk13) k hkN (by rw [t1]; exact hts _ w1) hsm (by rw [t1]; exact w7) (mm_tys _ hk13 k hkN) hn1 hf1 (by rw [mm_fs_len]; exact hkN) hd kk
            · have hin : t.1.name = "<init>" ∧ (mm_T f k).1 = t.1.cls := by
                simp only [Bool.or_eq_true, Bool.and_eq_true, decide_eq_true_eq] at hfin
                rcases hfin with q | q
                · omega
                · exact q
              exact va_putF (C := mm_ck (mm_K S a)) (T := mm_T (mm_K S a)) (N := mm_NF (mm_K S a)) (ci := mm_K S a) (ref := ref) hx hb hts (mm_uws _ hk13) (mm_ty (mm_K S a)) (mm_tys _ hk13) (mm_nms _ hk13) hown hK I.1 I.2.1 I.2.2.1 a hcell (mm_cls_get _ hk13) k hkN (by rw [t1]; exact hts _ w1) hsm (by rw [t1]; exact w7) (hnm hin.1) (by rw [t1]; exact hin.2.trans hcn) (mm_tys _ hk13 k hkN) hn1 hf1 (by rw [mm_fs_len]; exact hkN) hd kk
          split at hg
          · rename_i x
            cases hg
            rcases hty with ⟨-, h⟩ | ⟨h, -⟩ | ⟨h, -⟩ | ⟨h, -⟩
            · rw [h] at go
              refine go (.int x) rfl rfl rfl fun H1 locs1 a1 a2 a3 => ⟨mm_Ix_sM I ha ?_ a1 a2 a3, rfl, rfl⟩
              rw [mm_fs_sM (by omega) (by omega)]
              exact mm_ce1_obj (S := mm_sM S a _) hk13
            · omega
            · omega
            · omega
          · rename_i x
            split at hg
            · rename_i hx01
              cases hg
              rcases hty with ⟨h, -⟩ | ⟨h, -⟩ | ⟨-, h⟩ | ⟨h, -⟩
              · omega
              · omega
              · rw [h] at go
                refine go (.int x) rfl (by rcases hx01 with rfl | rfl <;> rfl) (by rcases hx01 with rfl | rfl <;> rfl) fun H1 locs1 a1 a2 a3 => ⟨mm_Ix_sM I ha ?_ a1 a2 a3, rfl, rfl⟩
                rw [mm_fs_sM (by omega) (by omega)]
                exact mm_ce1_obj (S := mm_sM S a _) hk13
              · omega
            · cases hg
          · rename_i x
            cases hg
            rcases hty with ⟨h, -⟩ | ⟨-, h⟩ | ⟨h, -⟩ | ⟨h, -⟩
            · omega
            · rw [h] at go
              refine go (.long x) rfl rfl rfl fun H1 locs1 a1 a2 a3 => ⟨mm_Ix_sL I ?_ a1 a2 a3, rfl, rfl⟩
              rw [mm_fs_sL htg]
              exact mm_ce1_obj (S := mm_sL S a _) hk13
            · omega
            · omega
          · rename_i b
            split at hg
            · rename_i hbn
              cases hg
              rcases hty with ⟨h, -⟩ | ⟨h, -⟩ | ⟨h, -⟩ | ⟨-, h⟩
              · omega
              · omega
              · omega
              · refine go (.ref (aa b)) (mm_ad_ref) (by rcases h with ⟨n, h⟩ | ⟨n, h⟩ <;> rw [h] <;> rfl) (by rcases h with ⟨n, h⟩ | ⟨n, h⟩ <;> rw [h] <;> rfl) fun H1 locs1 a1 a2 a3 => ⟨mm_Ix_sR I (fun b' hb' => by cases hb'; exact hbn) ?_ a1 a2 a3, rfl, rfl⟩
                rw [mm_fs_sR htg]
                exact mm_ce1_obj (S := mm_sR S a _) hk13
            · cases hg
          · cases hg
        · rw [if_neg ho] at hg; cases hg
end
section
/-! ===== arrays, new cells, library calls ===== -/
theorem mm_arr_sp {S : mm_S} {a k : Nat} (h : mm_arr S a k = true) : a < mm_n S ∧ mm_K S a = k := by
  unfold mm_arr at h
  simp only [Bool.and_eq_true, decide_eq_true_eq] at h
  exact h
theorem mm_ce1_i {ca : Nat → ClassId} {aa : Nat → Nat} {S : mm_S} {i : Nat} (h : mm_K S i = 13) : mm_ce1 ca aa S i = .inl (ca 13, mm_N S i, .inl (mm_M S i)) := by
  unfold mm_ce1
  rw [h]; rfl
theorem mm_ce1_z {ca : Nat → ClassId} {aa : Nat → Nat} {S : mm_S} {i : Nat} (h : mm_K S i = 15) : mm_ce1 ca aa S i = .inl (ca 15, mm_N S i, .inl (mm_M S i)) := by
  unfold mm_ce1
  rw [h]; rfl
theorem mm_ce1_j {ca : Nat → ClassId} {aa : Nat → Nat} {S : mm_S} {i : Nat} (h : mm_K S i = 14) : mm_ce1 ca aa S i = .inl (ca 14, mm_N S i, .inr (.inl (mm_L S i))) := by
  unfold mm_ce1
  rw [h]; rfl
theorem mm_ce1_q {ca : Nat → ClassId} {aa : Nat → Nat} {S : mm_S} {i k : Nat} (h : mm_K S i = k) (hk : k = 16 ∨ k = 17 ∨ k = 18) : mm_ce1 ca aa S i = .inl (ca k, mm_N S i, .inr (.inr (.inr (.inr fun j => (mm_R S i j).map aa)))) := by
  unfold mm_ce1
  rw [h]
  rcases hk with rfl | rfl | rfl <;> rfl
theorem mm_isB_sp {a : Nat} (h : mm_isB a = true) : ∃ k : Nat, k < 12 ∧ a = 1000000 + 2 * k + 1 ∧ mm_by a = (mm_sx k).2.2 := by
  unfold mm_isB at h
  simp only [Bool.and_eq_true, decide_eq_true_eq] at h
  obtain ⟨⟨h1, h2⟩, h3⟩ := h
  obtain ⟨b, rfl⟩ := Nat.exists_eq_add_of_le h1
  have h4 : b < 24 := Nat.lt_of_add_lt_add_left (n := 1000000) h2
  have e1 : mm_by (1000000 + b) = (mm_sx (b / 2)).2.2 := by
    have e0 : (1000000 + b) % 1000000 / 2 = b / 2 := by
      rw [Nat.add_mod_left, Nat.mod_eq_of_lt (by omega)]
    exact congrArg (fun k => (mm_sx k).2.2) e0
  have h5 : b % 2 = 1 := by
    have h6 : (1000000 + b) % 2 = b % 2 := by rw [Nat.add_mod]; simp
    rw [← h6]; exact h3
  have h7 : b / 2 < 12 := by omega
  have h8 : b = 2 * (b / 2) + 1 := by omega
  have h9 : 1000000 + b = 1000000 + 2 * (b / 2) + 1 := (congrArg (fun x => 1000000 + x) h8).trans (Nat.add_assoc 1000000 (2 * (b / 2)) 1).symm
  exact ⟨b / 2, h7, h9, e1⟩
theorem mm_sl_get {k : Nat} (h : k < 12) : mm_sl.getD k 0 = (mm_sx k).2.2.length := by
  simp [mm_sl, List.getD_eq_getElem?_getD, h]
theorem mm_sb_get {k : Nat} (h : k < 12) : mm_sb.getD k [] = (mm_sx k).2.2 := by
  simp [mm_sb, List.getD_eq_getElem?_getD, h]
theorem mo_iaload : mm_Ok .iaload := by
  intro p l e R s m args below meth c Q D ca z A t XS d pc len ls st S pc2 ls2 st2 S2 aa H locs lm cells slots F I X hd hl hs hc hz K
  obtain ⟨hx, hb, hml, hown, hts, hnm, hcn, hK, hA, hdf, hdl⟩ := F
  obtain rfl : len = 1 := mm_lk_eq hl rfl (by decide)
  obtain ⟨i, r, rfl, hs1⟩ := mm_i1_inv hs
  obtain ⟨a, r, rfl, hs2⟩ := mm_r1_inv hs1
  clear hs hs1
  by_cases h13 : mm_arr S a 13 = true
  case neg =>
    rw [if_neg h13] at hs2
    obtain ⟨hg, hs⟩ := mm_gd_inv hs2
    obtain ⟨rfl, rfl, rfl, rfl⟩ := mm_go_inv hs
    rw [Bool.and_eq_true, Bool.and_eq_true, decide_eq_true_eq, decide_eq_true_eq] at hg
    obtain ⟨⟨hsc, hg1⟩, hg2⟩ := hg
    have hg : t.2.2.2.2 = 17 ∧ mm_inb i (mm_N S a) = true := ⟨hg1, hg2⟩
    obtain ⟨hX, hbl, hbA⟩ := I.2.2.2.2.2.2.2 hg.1
    subst hsc
    rw [I.2.2.2.2.2.1] at hg
    rw [I.2.2.2.2.2.2.1] at K
    rw [List.map_cons, List.map_cons, mm_ad_ref]
    exact va_sld hx hb hX hbl hbA I.2.2.1 (mm_inb_in hg.2) hd (mm_K0 K I (mm_Xp X fun h => mm_p1 trivial (mm_t1 (mm_t1 h))))
  case pos =>
    rw [if_pos h13] at hs2
    obtain ⟨hg, hs⟩ := mm_gd_inv hs2
    obtain ⟨rfl, rfl, rfl, rfl⟩ := mm_go_inv hs
    obtain ⟨ha, hk⟩ := mm_arr_sp h13
    have hcell := mm_ws_get (ca := ca) (aa := aa) ha
    rw [mm_ce1_i hk] at hcell
    rw [List.map_cons, List.map_cons, mm_ad_ref]
    exact va_iald hx hb hK I.1 a 0 hcell rfl (mm_inb_in hg) hd (mm_K0 K I (mm_Xp X fun h => mm_p1 trivial (mm_t1 (mm_t1 h))))
theorem mo_laload : mm_Ok .laload := by
  intro p l e R s m args below meth c Q D ca z A t XS d pc len ls st S pc2 ls2 st2 S2 aa H locs lm cells slots F I X hd hl hs hc hz K
  obtain ⟨hx, hb, hml, hown, hts, hnm, hcn, hK, hA, hdf, hdl⟩ := F
  obtain rfl : len = 1 := mm_lk_eq hl rfl (by decide)
  obtain ⟨i, r, rfl, hs1⟩ := mm_i1_inv hs
  obtain ⟨a, r, rfl, hs2⟩ := mm_r1_inv hs1
  clear hs hs1
  obtain ⟨hg, hs⟩ := mm_gd_inv hs2
  obtain ⟨rfl, rfl, rfl, rfl⟩ := mm_go_inv hs
  rw [Bool.and_eq_true] at hg
  obtain ⟨ha, hk⟩ := mm_arr_sp hg.1
  have hcell := mm_ws_get (ca := ca) (aa := aa) ha
  rw [mm_ce1_j hk] at hcell
  rw [List.map_cons, List.map_cons, mm_ad_ref]
  exact va_lald hx hb hK I.1 a 1 hcell rfl (mm_inb_in hg.2) hd (mm_K0 K I (mm_Xp X fun h => mm_p1 trivial (mm_t1 (mm_t1 h))))
theorem mo_baload : mm_Ok .baload := by
  intro p l e R s m args below meth c Q D ca z A t XS d pc len ls st S pc2 ls2 st2 S2 aa H locs lm cells slots F I X hd hl hs hc hz K
  obtain ⟨hx, hb, hml, hown, hts, hnm, hcn, hK, hA, hdf, hdl⟩ := F
  obtain rfl : len = 1 := mm_lk_eq hl rfl (by decide)
  obtain ⟨i, r, rfl, hs1⟩ := mm_i1_inv hs
  obtain ⟨a, r, rfl, hs2⟩ := mm_r1_inv hs1
  clear hs hs1
  by_cases h15 : mm_arr S a 15 = true
  case neg =>
    rw [if_neg h15] at hs2
    obtain ⟨hg, hs⟩ := mm_gd_inv hs2
    obtain ⟨rfl, rfl, rfl, rfl⟩ := mm_go_inv hs
    rw [Bool.and_eq_true] at hg
    obtain ⟨hB, hg⟩ := hg
    obtain ⟨k, hk, rfl, hby⟩ := mm_isB_sp hB
    rw [hby] at K hg
    have hE := (I.2.2.2.2.1.1.1 k hk).2.2.2
    rw [mm_sl_get hk, mm_sb_get hk] at hE
    rw [List.map_cons, List.map_cons, mm_ad_ref]
    exact va_tb hx hb hE I.2.2.1 (mm_inb_in hg) rfl hd (mm_K0 K I (mm_Xp X fun h => mm_p1 trivial (mm_t1 (mm_t1 h))))
  case pos =>
    rw [if_pos h15] at hs2
    obtain ⟨hg, hs⟩ := mm_gd_inv hs2
    obtain ⟨rfl, rfl, rfl, rfl⟩ := mm_go_inv hs
    obtain ⟨ha, hk⟩ := mm_arr_sp h15
    have hcell := mm_ws_get (ca := ca) (aa := aa) ha
    rw [mm_ce1_z hk] at hcell
    rw [List.map_cons, List.map_cons, mm_ad_ref]
    exact va_zald hx hb hK I.1 a 2 hcell rfl (mm_inb_in hg) hd (mm_K0 K I (mm_Xp X fun h => mm_p1 trivial (mm_t1 (mm_t1 h))))
theorem mm_arrq_sp {S : mm_S} {a : Nat} (h : (mm_arr S a 16 || mm_arr S a 17 || mm_arr S a 18) = true) : a < mm_n S ∧ (mm_K S a = 16 ∨ mm_K S a = 17 ∨ mm_K S a = 18) := by
  simp only [Bool.or_eq_true] at h
  rcases h with (h | h) | h
  · obtain ⟨h1, h2⟩ := mm_arr_sp h; exact ⟨h1, Or.inl h2⟩
  · obtain ⟨h1, h2⟩ := mm_arr_sp h; exact ⟨h1, Or.inr (Or.inl h2)⟩
  · obtain ⟨h1, h2⟩ := mm_arr_sp h; exact ⟨h1, Or.inr (Or.inr h2)⟩
theorem mm_ats_q {ca : Nat → ClassId} {k : Nat} (hk : k = 16 ∨ k = 17 ∨ k = 18) : (mm_ats ca)[k - 13]? = some (ca k, .object (mm_ce k)) := by
  rcases hk with rfl | rfl | rfl <;> rfl
theorem mo_aaload : mm_Ok .aaload := by
  intro p l e R s m args below meth c Q D ca z A t XS d pc len ls st S pc2 ls2 st2 S2 aa H locs lm cells slots F I X hd hl hs hc hz K
  obtain ⟨hx, hb, hml, hown, hts, hnm, hcn, hK, hA, hdf, hdl⟩ := F
  obtain rfl : len = 1 := mm_lk_eq hl rfl (by decide)
  obtain ⟨i, r, rfl, hs1⟩ := mm_i1_inv hs
  obtain ⟨a, r, rfl, hs2⟩ := mm_r1_inv hs1
  clear hs hs1
  obtain ⟨hg, hs⟩ := mm_gd_inv hs2
  obtain ⟨rfl, rfl, rfl, rfl⟩ := mm_go_inv hs
  rw [Bool.and_eq_true] at hg
  obtain ⟨ha, hk⟩ := mm_arrq_sp hg.1
  have hcell := mm_ws_get (ca := ca) (aa := aa) ha
  rw [mm_ce1_q rfl hk] at hcell
  have hlt : ∀ b, mm_R S a i.toNatClampNeg = some b → b < mm_n S := I.2.2.2.1.1 a ha _
  have K1 := mm_K0 K I (mm_Xp X fun h => mm_p1 (v := mm_rv (mm_R S a i.toNatClampNeg)) (by
    cases hr : mm_R S a i.toNatClampNeg with
    | none => exact trivial
    | some b => exact Or.inl (hlt b hr)) (mm_t1 (mm_t1 h)))
  rw [List.map_cons, mm_ad_rv] at K1
  rw [List.map_cons, List.map_cons, mm_ad_ref]
  exact va_aldq hx hb hK I.1 a (mm_K S a - 13) hcell (mm_ats_q hk) (mm_inb_in hg.2) hd K1
theorem mm_upd_u {f : Nat → Int32} {k : Nat} {x : Int32} : upd f k x = mm_u f k x := rfl
theorem mo_iastore : mm_Ok .iastore := by
  intro p l e R s m args below meth c Q D ca z A t XS d pc len ls st S pc2 ls2 st2 S2 aa H locs lm cells slots F I X hd hl hs hc hz K
  obtain ⟨hx, hb, hml, hown, hts, hnm, hcn, hK, hA, hdf, hdl⟩ := F
  obtain rfl : len = 1 := mm_lk_eq hl rfl (by decide)
  obtain ⟨i, x, r, rfl, hs1⟩ := mm_i2_inv hs
  obtain ⟨a, r, rfl, hs2⟩ := mm_r1_inv hs1
  clear hs hs1
  obtain ⟨hg, hs⟩ := mm_gd_inv hs2
  obtain ⟨rfl, rfl, rfl, rfl⟩ := mm_go_inv hs
  rw [Bool.and_eq_true] at hg
  obtain ⟨ha, hk⟩ := mm_arr_sp hg.1
  have hcell := mm_ws_get (ca := ca) (aa := aa) ha
  rw [mm_ce1_i hk] at hcell
  rw [List.map_cons, List.map_cons, List.map_cons, mm_ad_ref]
  refine va_iast hx hb hK I.1 I.2.1 I.2.2.1 a 0 hcell rfl (mm_inb_in hg.2) hd (fun H1 locs1 a1 a2 a3 => ?_)
  refine K aa H1 locs1 lm cells slots rfl rfl (fun _ _ => rfl) (mm_Ix_sM I ha ?_ a1 a2 a3) ⟨X.1, mm_t1 (mm_t1 (mm_t1 X.2.1)), X.2.2⟩
  rw [mm_ce1_i (S := mm_sM S a _) hk]
  have e1 : mm_M (mm_sM S a (mm_u (mm_M S a) i.toNatClampNeg x)) a = mm_u (mm_M S a) i.toNatClampNeg x := mm_u_self
  rw [e1]; rfl
theorem mo_lastore : mm_Ok .lastore := by
  intro p l e R s m args below meth c Q D ca z A t XS d pc len ls st S pc2 ls2 st2 S2 aa H locs lm cells slots F I X hd hl hs hc hz K
  obtain ⟨hx, hb, hml, hown, hts, hnm, hcn, hK, hA, hdf, hdl⟩ := F
  obtain rfl : len = 1 := mm_lk_eq hl rfl (by decide)
  obtain ⟨x, r, rfl, hs0⟩ := mm_j1_inv hs
  obtain ⟨i, r, rfl, hs1⟩ := mm_i1_inv hs0
  obtain ⟨a, r, rfl, hs2⟩ := mm_r1_inv hs1
  clear hs hs0 hs1
  obtain ⟨hg, hs⟩ := mm_gd_inv hs2
  obtain ⟨rfl, rfl, rfl, rfl⟩ := mm_go_inv hs
  rw [Bool.and_eq_true] at hg
  obtain ⟨ha, hk⟩ := mm_arr_sp hg.1
  have hcell := mm_ws_get (ca := ca) (aa := aa) ha
  rw [mm_ce1_j hk] at hcell
  rw [List.map_cons, List.map_cons, List.map_cons, mm_ad_ref]
  refine va_last hx hb hK I.1 I.2.1 I.2.2.1 a 1 hcell rfl (mm_inb_in hg.2) hd (fun H1 locs1 a1 a2 a3 => ?_)
  refine K aa H1 locs1 lm cells slots rfl rfl (fun _ _ => rfl) (mm_Ix_sL I ?_ a1 a2 a3) ⟨X.1, mm_t1 (mm_t1 (mm_t1 X.2.1)), X.2.2⟩
  rw [mm_ce1_j (S := mm_sL S a _) hk]
  have e1 : mm_L (mm_sL S a (mm_u (mm_L S a) i.toNatClampNeg x)) a = mm_u (mm_L S a) i.toNatClampNeg x := mm_u_self
  rw [e1]; rfl
theorem mo_bastore : mm_Ok .bastore := by
  intro p l e R s m args below meth c Q D ca z A t XS d pc len ls st S pc2 ls2 st2 S2 aa H locs lm cells slots F I X hd hl hs hc hz K
  obtain ⟨hx, hb, hml, hown, hts, hnm, hcn, hK, hA, hdf, hdl⟩ := F
  obtain rfl : len = 1 := mm_lk_eq hl rfl (by decide)
  obtain ⟨i, x, r, rfl, hs1⟩ := mm_i2_inv hs
  obtain ⟨a, r, rfl, hs2⟩ := mm_r1_inv hs1
  clear hs hs1
  obtain ⟨hg, hs⟩ := mm_gd_inv hs2
  obtain ⟨rfl, rfl, rfl, rfl⟩ := mm_go_inv hs
  rw [Bool.and_eq_true] at hg
  obtain ⟨ha, hk⟩ := mm_arr_sp hg.1
  have hcell := mm_ws_get (ca := ca) (aa := aa) ha
  rw [mm_ce1_z hk] at hcell
  rw [List.map_cons, List.map_cons, List.map_cons, mm_ad_ref]
  refine va_zast hx hb hK I.1 I.2.1 I.2.2.1 a 2 hcell rfl (mm_inb_in hg.2) hd (fun H1 locs1 a1 a2 a3 => ?_)
  refine K aa H1 locs1 lm cells slots rfl rfl (fun _ _ => rfl) (mm_Ix_sM I ha ?_ a1 a2 a3) ⟨X.1, mm_t1 (mm_t1 (mm_t1 X.2.1)), X.2.2⟩
  rw [mm_ce1_z (S := mm_sM S a _) hk]
  have e1 : mm_M (mm_sM S a (mm_u (mm_M S a) i.toNatClampNeg (vp_nar .boolean x))) a = mm_u (mm_M S a) i.toNatClampNeg (vp_nar .boolean x) := mm_u_self
  rw [e1]; rfl
theorem mo_aastore : mm_Ok .aastore := by
  intro p l e R s m args below meth c Q D ca z A t XS d pc len ls st S pc2 ls2 st2 S2 aa H locs lm cells slots F I X hd hl hs hc hz K
  obtain ⟨hx, hb, hml, hown, hts, hnm, hcn, hK, hA, hdf, hdl⟩ := F
  obtain rfl : len = 1 := mm_lk_eq hl rfl (by decide)
  obtain ⟨v, r, rfl, hs0⟩ := mm_v1_inv hs
  obtain ⟨i, r, rfl, hs1⟩ := mm_i1_inv hs0
  obtain ⟨a, r, rfl, hs2⟩ := mm_r1_inv hs1
  clear hs hs0 hs1
  obtain ⟨hg, hs⟩ := mm_gd_inv hs2
  clear hs2
  rw [Bool.and_eq_true] at hg
  obtain ⟨ha, hk⟩ := mm_arrq_sp hg.1
  have hcell := mm_ws_get (ca := ca) (aa := aa) ha
  rw [mm_ce1_q rfl hk] at hcell
  have hset : ∀ o : Option Nat, mm_ce1 ca aa (mm_sR S a (mm_u (mm_R S a) i.toNatClampNeg o)) a = .inl (ca (mm_K S a), mm_N S a, .inr (.inr (.inr (.inr (va_up (fun j => (mm_R S a j).map aa) i.toNatClampNeg (o.map aa)))))) := by
    intro o
    rw [mm_ce1_q (S := mm_sR S a _) (k := mm_K S a) rfl hk]
    have e1 : mm_R (mm_sR S a (mm_u (mm_R S a) i.toNatClampNeg o)) a = mm_u (mm_R S a) i.toNatClampNeg o := mm_u_self
    rw [e1]
    refine congrArg (fun f => (Sum.inl (ca (mm_K S a), mm_N S a, .inr (.inr (.inr (.inr f)))) : va_E)) ?_
    funext j
    by_cases hj : j = i.toNatClampNeg
    · simp [mm_u, va_up, hj]
    · simp [mm_u, va_up, hj]
  cases v with
  | null =>
    obtain ⟨rfl, rfl, rfl, rfl⟩ := mm_go_inv hs
    rw [List.map_cons, List.map_cons, List.map_cons, mm_ad_ref]
    refine va_astqN hx hb hK I.1 I.2.1 I.2.2.1 a (mm_K S a - 13) hcell (mm_ats_q hk) (mm_inb_in hg.2) hd (fun H1 locs1 a1 a2 a3 => ?_)
    exact K aa H1 locs1 lm cells slots rfl rfl (fun _ _ => rfl) (mm_Ix_sR I (fun b h => by cases h) (hset none) a1 a2 a3) ⟨X.1, mm_t1 (mm_t1 (mm_t1 X.2.1)), X.2.2⟩
  | ref b =>
    have hb0 : ∃ b0 : Nat, b0 = b := ⟨b, rfl⟩
    obtain ⟨b0, hb0⟩ := hb0
    obtain ⟨ho, hs⟩ := mm_gd_inv hs
    obtain ⟨rfl, rfl, rfl, rfl⟩ := mm_go_inv hs
    obtain ⟨hbn, hb13, hfam⟩ := mm_obj_sp ho
    have hcb := mm_ws_get (ca := ca) (aa := aa) hbn
    rw [mm_ce1_obj hb13] at hcb
    rw [List.map_cons, List.map_cons, List.map_cons, mm_ad_ref, mm_ad_ref]
    have kk : ∀ (H1 : Heap) (locs1 : List Loc), va_P D mm_cl_s ((mm_ws ca aa S).set a (aa a, .inl (ca (mm_K S a), mm_N S a, .inr (.inr (.inr (.inr (va_up (fun j => (mm_R S a j).map aa) i.toNatClampNeg (some (aa b))))))))) H1 → va_D A ((mm_ws ca aa S).set a (aa a, .inl (ca (mm_K S a), mm_N S a, .inr (.inr (.inr (.inr (va_up (fun j => (mm_R S a j).map aa) i.toNatClampNeg (some (aa b))))))))) → va_S A s.heap H1 locs1 → W p l e R s m args below meth c H1 locs1 cells slots Q (F0 m (pc + 1) lm (r.map (mm_ad aa z))) := fun H1 locs1 a1 a2 a3 =>
      K aa H1 locs1 lm cells slots rfl rfl (fun _ _ => rfl) (mm_Ix_sR I (fun b' h => by cases h; exact hbn) (hset (some b)) a1 a2 a3) ⟨X.1, mm_t1 (mm_t1 (mm_t1 X.2.1)), X.2.2⟩
    have hor : mm_ck (mm_K S b) = mm_ce (mm_K S a) ∨ (mm_ck (mm_K S b), mm_ce (mm_K S a)) ∈ mm_E1 := by
      rcases hk with h | h | h
      · rw [h] at hfam ⊢
        exact mm_cb _ hfam
      · rw [h] at hfam ⊢
        have h6 : mm_K S b = 6 := by
          unfold mm_fam at hfam
          simp at hfam
          exact hfam.symm
        rw [h6]
        exact Or.inl rfl
      · rw [h] at hfam ⊢
        have h8 : mm_K S b = 8 := by
          unfold mm_fam at hfam
          simp at hfam
          exact hfam.symm
        rw [h8]
        exact Or.inl rfl
    rcases hor with h | h
    · exact va_astq (r := (mm_ck (mm_K S b), mm_T (mm_K S b), mm_NF (mm_K S b))) hx hb hK I.1 I.2.1 I.2.2.1 a (mm_K S a - 13) b (mm_K S b) hcell (by rw [mm_ats_q hk, ← h]) hcb (mm_cls_get _ hb13) (mm_inb_in hg.2) hd kk
    · exact va_astqO (r := (mm_ck (mm_K S b), mm_T (mm_K S b), mm_NF (mm_K S b))) hx hb hK I.1 I.2.1 I.2.2.1 a (mm_K S a - 13) b (mm_K S b) hcell (mm_ats_q hk) (I.2.2.2.2.1.2.2.2.2.2.2.1 _ h) hcb (mm_cls_get _ hb13) (mm_inb_in hg.2) hd kk
  | _ => cases hs
theorem mo_arraylength : mm_Ok .arraylength := by
  intro p l e R s m args below meth c Q D ca z A t XS d pc len ls st S pc2 ls2 st2 S2 aa H locs lm cells slots F I X hd hl hs hc hz K
  obtain ⟨hx, hb, hml, hown, hts, hnm, hcn, hK, hA, hdf, hdl⟩ := F
  obtain rfl : len = 1 := mm_lk_eq hl rfl (by decide)
  obtain ⟨a, r, rfl, hs2⟩ := mm_r1_inv hs
  clear hs
  by_cases hg : (decide (a < mm_n S) && decide (13 ≤ mm_K S a) && decide (mm_K S a < 19)) = true
  · rw [if_pos hg] at hs2
    obtain ⟨rfl, rfl, rfl, rfl⟩ := mm_go_inv hs2
    simp only [Bool.and_eq_true, decide_eq_true_eq] at hg
    obtain ⟨⟨ha, hk1⟩, hk2⟩ := hg
    have hcell := mm_ws_get (ca := ca) (aa := aa) ha
    have K1 := mm_K0 K I (mm_Xp X fun h => mm_p1 (v := .int (Int32.ofNat (mm_N S a))) trivial (mm_t1 h))
    rw [List.map_cons, mm_ad_ref]
    obtain h | h | h | h : mm_K S a = 13 ∨ mm_K S a = 14 ∨ mm_K S a = 15 ∨ (mm_K S a = 16 ∨ mm_K S a = 17 ∨ mm_K S a = 18) := by omega
    · rw [mm_ce1_i h] at hcell
      exact va_alen hx hb hK I.1 a 0 hcell rfl rfl hd K1
    · rw [mm_ce1_j h] at hcell
      exact va_alen hx hb hK I.1 a 1 hcell rfl rfl hd K1
    · rw [mm_ce1_z h] at hcell
      exact va_alen hx hb hK I.1 a 2 hcell rfl rfl hd K1
    · rw [mm_ce1_q rfl h] at hcell
      exact va_alen hx hb hK I.1 a (mm_K S a - 13) hcell (mm_ats_q h) rfl hd K1
  · rw [if_neg hg] at hs2
    by_cases hB : mm_isB a = true
    · rw [if_pos hB] at hs2
      obtain ⟨rfl, rfl, rfl, rfl⟩ := mm_go_inv hs2
      obtain ⟨k, hk, rfl, hby⟩ := mm_isB_sp hB
      rw [hby] at K
      have hE := (I.2.2.2.2.1.1.1 k hk).2.2.2
      rw [mm_sl_get hk, mm_sb_get hk] at hE
      rw [List.map_cons, mm_ad_ref]
      exact va_tlen hx hb hE I.2.2.1 rfl hd (mm_K0 K I (mm_Xp X fun h => mm_p1 trivial (mm_t1 h)))
    · rw [if_neg hB] at hs2
      obtain ⟨hg, hs⟩ := mm_gd_inv hs2
      obtain ⟨rfl, rfl, rfl, rfl⟩ := mm_go_inv hs
      rw [Bool.and_eq_true, decide_eq_true_eq, decide_eq_true_eq] at hg
      obtain ⟨hsc, hg1⟩ := hg
      obtain ⟨hX, hbl, hbA⟩ := I.2.2.2.2.2.2.2 hg1
      subst hsc
      rw [I.2.2.2.2.2.1] at K
      rw [List.map_cons, mm_ad_ref]
      exact va_slen hx hb hX hbl hbA I.2.2.1 hd (mm_K0 K I (mm_Xp X fun h => mm_p1 trivial (mm_t1 h)))
/-! ===== a new cell ===== -/
theorem mm_Ev_aa {z : Value} {aa bb : Nat → Nat} {A : Nat → Prop} {U : State} {H : Heap} (h : ∀ i, 1000000 ≤ i → bb i = aa i) (E : mm_Ev z aa A U H) : mm_Ev z bb A U H := by
  have e1 : (fun k => bb (1000000 + 2 * k)) = (fun k => aa (1000000 + 2 * k)) := funext fun k => h _ (by omega)
  have e2 : (fun k => bb (1000000 + 2 * k + 1)) = (fun k => aa (1000000 + 2 * k + 1)) := funext fun k => h _ (by omega)
  unfold mm_Ev at E ⊢
  rw [e1, e2]
  refine ⟨E.1, fun k hk => ?_, E.2.2⟩
  rw [h _ (by omega)]
  exact E.2.1 k hk
theorem mm_wf_nw {S : mm_S} {k n : Nat} (h : mm_wf S) (hn : mm_n S < 1000000) : mm_wf (mm_nw S k n) := by
  refine ⟨fun i hi j b hb => ?_, by show mm_n S + 1 ≤ 1000000; omega⟩
  have hi : i < mm_n S + 1 := hi
  show b < mm_n S + 1
  by_cases h1 : i = mm_n S
  · have e1 : mm_R (mm_nw S k n) i = fun _ => none := by rw [h1]; exact mm_u_self
    rw [e1] at hb
    cases hb
  · have e1 : mm_R (mm_nw S k n) i = mm_R S i := mm_u_ne h1
    rw [e1] at hb
    have := h.1 i (by omega) j b hb
    omega
theorem mm_vok_nw {S : mm_S} {k n : Nat} {v : Value} (h : mm_vok S v) : mm_vok (mm_nw S k n) v := by
  cases v <;> try exact trivial
  rename_i i
  rcases h with h | h
  · exact Or.inl (Nat.lt_succ_of_lt h)
  · exact Or.inr h
theorem mm_nw_ok {p : Program} {l : Launch} {e : Env} {R : Room} {s : State} {m : MethodId} {args : Array Value} {below : List Frame} {meth : Method} {c : Code} {Q : State → Prop} {D : va_G} {ca : Nat → ClassId} {z : Value} {A : Nat → Prop} {t : mm_mT} {XS : Nat × (Nat → Int32)} {pc2 : Nat} {ls r : List Value} {S : mm_S} {aa : Nat → Nat} {H H1 : Heap} {locs locs1 : List Loc} {lm : Array Slot} {cells slots k n q : Nat} {e1 : va_E} (hn : mm_n S < 1000000) (I : mm_Ix s D ca z A t XS aa S H locs) (hl : ∀ v ∈ ls, mm_vok S v) (hr : ∀ v ∈ r, mm_vok S v) (hL : mm_Lr aa z ls lm t.2.2.1) (he : mm_ce1 ca aa (mm_nw S k n) (mm_n S) = e1) (h1 : va_P D mm_cl_s (mm_ws ca aa S ++ [(q, e1)]) H1) (h2 : va_D A (mm_ws ca aa S ++ [(q, e1)])) (h3 : va_S A s.heap H1 locs1) (K : mm_Kx p l e R s m args below meth c Q D ca z A t XS aa S cells slots pc2 ls (.ref (mm_n S) :: r) (mm_nw S k n)) : W p l e R s m args below meth c H1 locs1 (cells + 1) (slots + n) Q (F0 m pc2 lm (.ref q :: r.map (mm_ad aa z))) := by
  have hag : ∀ i, i < mm_n S ∨ 1000000 ≤ i → mm_u aa (mm_n S) q i = aa i := fun i hi => mm_u_ne (by omega)
  have hnone : mm_R (mm_nw S k n) (mm_n S) = fun _ => none := mm_u_self
  have he2 : mm_ce1 ca (mm_u aa (mm_n S) q) (mm_nw S k n) (mm_n S) = e1 := by
    rw [mm_ce1_aa (aa := aa) (fun j b h => by rw [hnone] at h; cases h)]
    exact he
  have hpush := mm_ws_push (ca := ca) (aa := aa) (S := S) (k := k) (n := n) (q := q) I.2.2.2.1 he2
  rw [hpush] at h1 h2
  have hne : mm_SC ≠ mm_n S := by show 3000000 ≠ mm_n S; omega
  have K1 := K (mm_u aa (mm_n S) q) H1 locs1 lm (cells + 1) (slots + n) (by show cells + 1 + mm_n S = cells + (mm_n S + 1); omega) (by show slots + n + mm_z S = slots + (mm_z S + n); omega) hag
    ⟨h1, h2, h3, mm_wf_nw I.2.2.2.1 hn, mm_Ev_aa (fun i hi => hag i (Or.inr hi)) I.2.2.2.2.1, (show mm_N (mm_nw S k n) mm_SC = mm_N S mm_SC from mm_u_ne hne).trans I.2.2.2.2.2.1, (show mm_M (mm_nw S k n) mm_SC = mm_M S mm_SC from mm_u_ne hne).trans I.2.2.2.2.2.2.1, fun h => by
      rw [hag mm_SC (Or.inr (by decide))]
      exact I.2.2.2.2.2.2.2 h⟩
    ⟨fun v hv => mm_vok_nw (hl v hv), mm_p1 (Or.inl (Nat.lt_succ_self _)) fun v hv => mm_vok_nw (hr v hv), mm_Lr_aa hL hl hag⟩
  rw [List.map_cons, mm_ad_ref, mm_u_self, mm_map_aa hr hag] at K1
  exact K1
theorem mo_newarray (ty : ArrayType) : mm_Ok (.newarray ty) := by
  intro p l e R s m args below meth c Q D ca z A t XS d pc len ls st S pc2 ls2 st2 S2 aa H locs lm cells slots F I X hd hl hs hc hz K
  obtain ⟨hx, hb, hml, hown, hts, hnm, hcn, hK, hA, hdf, hdl⟩ := F
  obtain rfl : len = 2 := mm_lk_eq hl rfl (by decide)
  obtain ⟨n, r, rfl, hs2⟩ := mm_i1_inv hs
  clear hs
  obtain ⟨hg, hs⟩ := mm_gd_inv hs2
  simp only [Bool.and_eq_true, decide_eq_true_eq, Bool.not_eq_true', decide_eq_false_iff_not] at hg
  obtain ⟨⟨hn0, hn1⟩, hn2⟩ := hg
  have hr := mm_t1 X.2.1
  cases ty with
  | int =>
    obtain ⟨rfl, rfl, rfl, rfl⟩ := mm_go_inv hs
    have hc : cells + (mm_n S + 1) ≤ R.cells + mm_n S := hc
    have hz : slots + (mm_z S + n.toNatClampNeg) ≤ R.slots + mm_z S := hz
    refine va_newa (atype := .int) hx hb (hts _ mm_ar_i) rfl hK I.1 I.2.1 I.2.2.1 hA (a0 := (n.toNatClampNeg, .inl fun _ => 0)) (fun _ => rfl) hn0 rfl (by show n.toNatClampNeg * 4 ≤ 536870912; omega) (by omega) (by omega) hd (fun q cA H1 hK1 a1 a2 a3 => ?_)
    have hcA : cA = ca 13 := Option.some.inj (((hK1.2 6 (cA, .int) rfl).2).symm.trans ((hK.2 0 (ca 13, .int) rfl).2))
    subst hcA
    refine mm_nw_ok hn2 I X.1 hr X.2.2 ?_ a1 a2 a3 K
    have hk : mm_K (mm_nw S 13 n.toNatClampNeg) (mm_n S) = 13 := mm_u_self
    have hN : mm_N (mm_nw S 13 n.toNatClampNeg) (mm_n S) = n.toNatClampNeg := mm_u_self
    have hM : mm_M (mm_nw S 13 n.toNatClampNeg) (mm_n S) = fun _ => 0 := mm_u_self
    rw [mm_ce1_i hk, hN, hM]
  | long =>
    obtain ⟨rfl, rfl, rfl, rfl⟩ := mm_go_inv hs
    have hc : cells + (mm_n S + 1) ≤ R.cells + mm_n S := hc
    have hz : slots + (mm_z S + n.toNatClampNeg) ≤ R.slots + mm_z S := hz
    refine va_newa (atype := .long) hx hb (hts _ mm_ar_j) rfl hK I.1 I.2.1 I.2.2.1 hA (a0 := (n.toNatClampNeg, .inr (.inl fun _ => 0))) (fun _ => rfl) hn0 rfl (by show n.toNatClampNeg * 8 ≤ 536870912; omega) (by omega) (by omega) hd (fun q cA H1 hK1 a1 a2 a3 => ?_)
    have hcA : cA = ca 14 := Option.some.inj (((hK1.2 6 (cA, .long) rfl).2).symm.trans ((hK.2 1 (ca 14, .long) rfl).2))
    subst hcA
    refine mm_nw_ok hn2 I X.1 hr X.2.2 ?_ a1 a2 a3 K
    have hk : mm_K (mm_nw S 14 n.toNatClampNeg) (mm_n S) = 14 := mm_u_self
    have hN : mm_N (mm_nw S 14 n.toNatClampNeg) (mm_n S) = n.toNatClampNeg := mm_u_self
    have hM : mm_L (mm_nw S 14 n.toNatClampNeg) (mm_n S) = fun _ => 0 := mm_u_self
    rw [mm_ce1_j hk, hN, hM]
  | boolean =>
    obtain ⟨rfl, rfl, rfl, rfl⟩ := mm_go_inv hs
    have hc : cells + (mm_n S + 1) ≤ R.cells + mm_n S := hc
    have hz : slots + (mm_z S + n.toNatClampNeg) ≤ R.slots + mm_z S := hz
    refine va_newa (atype := .boolean) hx hb (hts _ mm_ar_z) rfl hK I.1 I.2.1 I.2.2.1 hA (a0 := (n.toNatClampNeg, .inl fun _ => 0)) (fun _ => rfl) hn0 rfl (by show n.toNatClampNeg * 1 ≤ 536870912; omega) (by omega) (by omega) hd (fun q cA H1 hK1 a1 a2 a3 => ?_)
    have hcA : cA = ca 15 := Option.some.inj (((hK1.2 6 (cA, .boolean) rfl).2).symm.trans ((hK.2 2 (ca 15, .boolean) rfl).2))
    subst hcA
    refine mm_nw_ok hn2 I X.1 hr X.2.2 ?_ a1 a2 a3 K
    have hk : mm_K (mm_nw S 15 n.toNatClampNeg) (mm_n S) = 15 := mm_u_self
    have hN : mm_N (mm_nw S 15 n.toNatClampNeg) (mm_n S) = n.toNatClampNeg := mm_u_self
    have hM : mm_M (mm_nw S 15 n.toNatClampNeg) (mm_n S) = fun _ => 0 := mm_u_self
    rw [mm_ce1_z hk, hN, hM]
  | _ => cases hs
theorem mo_anewarray (i : Nat) : mm_Ok (.anewarray i) := by
  intro p l e R s m args below meth c Q D ca z A t XS d pc len ls st S pc2 ls2 st2 S2 aa H locs lm cells slots F I X hd hl hs hc hz K
  obtain ⟨hx, hb, hml, hown, hts, hnm, hcn, hK, hA, hdf, hdl⟩ := F
  obtain rfl : len = 3 := mm_lk_eq hl rfl (by decide)
  obtain ⟨n, r, rfl, hs2⟩ := mm_i1_inv hs
  clear hs
  obtain ⟨hg, hs⟩ := mm_gd_inv hs2
  simp only [Bool.and_eq_true, decide_eq_true_eq, Bool.not_eq_true', decide_eq_false_iff_not] at hg
  obtain ⟨⟨hn0, hn1⟩, hn2⟩ := hg
  have hr := mm_t1 X.2.1
  cases hv : mm_fd mm_AN t.2.2.2.2 i with
  | none => rw [hv] at hs; cases hs
  | some k =>
    rw [hv] at hs
    obtain ⟨rfl, rfl, rfl, rfl⟩ := mm_go_inv hs
    obtain ⟨w1, w2, w3⟩ := mm_AN_ok _ (mm_fd_mem hv)
    have w1 : k = 16 ∨ k = 17 ∨ k = 18 := w1
    have hc : cells + (mm_n S + 1) ≤ R.cells + mm_n S := hc
    have hz : slots + (mm_z S + n.toNatClampNeg) ≤ R.slots + mm_z S := hz
    refine va_newq hx hb hown (hts _ w2) (I.2.2.2.2.1.2.2.2.2.2.2.2.1 _ w3) hK I.1 I.2.1 I.2.2.1 hA hn0 rfl (by omega) (by omega) (by omega) hd (fun q cA H1 hK1 a1 a2 a3 => ?_)
    have hcA : cA = ca k := by
      obtain ⟨_, _, _, _, _, h1⟩ := (hK1.2 6 (cA, .object (mm_ce k)) rfl).2
      obtain ⟨_, _, _, _, _, h2⟩ := (hK.2 (k - 13) (ca k, .object (mm_ce k)) (mm_ats_q w1)).2
      exact Option.some.inj (h1.symm.trans h2)
    subst hcA
    refine mm_nw_ok hn2 I X.1 hr X.2.2 ?_ a1 a2 a3 K
    have hk : mm_K (mm_nw S k n.toNatClampNeg) (mm_n S) = k := mm_u_self
    have hN : mm_N (mm_nw S k n.toNatClampNeg) (mm_n S) = n.toNatClampNeg := mm_u_self
    have hM : mm_R (mm_nw S k n.toNatClampNeg) (mm_n S) = fun _ => none := mm_u_self
    rw [mm_ce1_q hk w1, hN, hM]
    rfl
theorem mo_new (i : Nat) : mm_Ok (.new i) := by
  intro p l e R s m args below meth c Q D ca z A t XS d pc len ls st S pc2 ls2 st2 S2 aa H locs lm cells slots F I X hd hl hs hc hz K
  obtain ⟨hx, hb, hml, hown, hts, hnm, hcn, hK, hA, hdf, hdl⟩ := F
  obtain rfl : len = 3 := mm_lk_eq hl rfl (by decide)
  obtain ⟨hg, hs2⟩ := mm_gd_inv hs
  clear hs
  have hn2 := of_decide_eq_true hg
  cases hv : mm_fd mm_NW t.2.2.2.2 i with
  | none => rw [hv] at hs2; cases hs2
  | some k =>
    rw [hv] at hs2
    obtain ⟨rfl, rfl, rfl, rfl⟩ := mm_go_inv hs2
    obtain ⟨w1, w2, w3, w4⟩ := mm_NW_ok _ (mm_fd_mem hv)
    have w1 : k < 13 := w1
    have hc : cells + (mm_n S + 1) ≤ R.cells + mm_n S := hc
    have hz : slots + (mm_z S + mm_NF k) ≤ R.slots + mm_z S := hz
    have hL : mm_L (mm_nw S k (mm_NF k)) (mm_n S) = fun _ => 0 := mm_u_self
    have hM : mm_M (mm_nw S k (mm_NF k)) (mm_n S) = fun _ => 0 := mm_u_self
    have hR : mm_R (mm_nw S k (mm_NF k)) (mm_n S) = fun _ => none := mm_u_self
    have hfs : ∀ j, j < mm_NF k → defaultValue (mm_ty k j) = vp_V (mm_fs aa (mm_nw S k (mm_NF k)) k (mm_n S)) j := by
      intro j hj
      unfold vp_V
      rw [List.getD_eq_getElem?_getD, mm_fs_get hj, hL, hM, hR]
      rcases mm_tgs k w1 j hj with ⟨h1, h2⟩ | ⟨h1, h2⟩ | ⟨h1, h2⟩ | ⟨h1, h2⟩
      · rw [h1, h2]; rfl
      · rw [h1, h2]; rfl
      · rw [h1, h2]; rfl
      · rw [h1]
        rcases h2 with ⟨n, h2⟩ | ⟨n, h2⟩ <;> rw [h2] <;> rfl
    refine va_new (C := mm_ck k) (T := mm_T k) (N := mm_NF k) (ci := k) hx hb hts (mm_uws _ w1) (mm_ty k) (mm_tys _ w1) hown (hts _ w2) (hts _ w3) (hts _ w4) hK I.1 I.2.1 I.2.2.1 hA (mm_cls_get _ w1) hfs (by omega) (by omega) hd (fun q H1 a1 a2 a3 => ?_)
    refine mm_nw_ok hn2 I X.1 X.2.1 X.2.2 ?_ a1 a2 a3 K
    have hk : mm_K (mm_nw S k (mm_NF k)) (mm_n S) = k := mm_u_self
    rw [mm_ce1_obj (by rw [hk]; exact w1), hk]
theorem mo_instanceof (i : Nat) : mm_Ok (.instanceof i) := by
  intro p l e R s m args below meth c Q D ca z A t XS d pc len ls st S pc2 ls2 st2 S2 aa H locs lm cells slots F I X hd hl hs hc hz K
  obtain ⟨hx, hb, hml, hown, hts, hnm, hcn, hK, hA, hdf, hdl⟩ := F
  obtain rfl : len = 3 := mm_lk_eq hl rfl (by decide)
  obtain ⟨a, r, rfl, hs2⟩ := mm_r1_inv hs
  clear hs
  cases hv : mm_fd mm_IO t.2.2.2.2 i with
  | none => rw [hv] at hs2; cases hs2
  | some q0 =>
    obtain ⟨nm, yes⟩ := q0
    rw [hv] at hs2
    obtain ⟨ho, hs⟩ := mm_gd_inv hs2
    obtain ⟨rfl, rfl, rfl, rfl⟩ := mm_go_inv hs
    obtain ⟨ha, h13, hfam⟩ := mm_obj_sp ho
    obtain ⟨w1, w2, w3⟩ := mm_IO_ok _ (mm_fd_mem hv)
    simp only at w1 w2 w3
    have hcell := mm_ws_get (ca := ca) (aa := aa) ha
    rw [mm_ce1_obj h13] at hcell
    have hr := va_recv hK I.1 (mm_cls_get _ h13) hcell
    rw [List.map_cons, mm_ad_ref]
    have K1 := mm_K0 K I (mm_Xp X fun h => mm_p1 (v := .int (if mm_K S a ∈ yes then 1 else 0)) trivial (mm_t1 h))
    by_cases hy : mm_K S a ∈ yes
    · simp only [if_pos hy] at K1
      rcases w2 _ hy with h | h
      · rw [← h] at w1
        exact va_instE hx hb hown (hts _ w1) hr hd K1
      · exact va_instY hx hb hown (hts _ w1) (I.2.2.2.2.1.2.2.2.2.2.2.1 _ h) hr hd K1
    · simp only [if_neg hy] at K1
      exact va_instNo hx hb hown (hts _ w1) (I.2.2.2.2.1.2.2.2.2.2.1 _ (w3 _ hfam hy)) hr hd K1
theorem mm_lmsz {aa : Nat → Nat} {z : Value} {ls : List Value} {lm : Array Slot} {n : Nat} (h : mm_Lr aa z ls lm n) : lm.size = n := h.2.1
theorem mo_invokestatic (i : Nat) : mm_Ok (.invokestatic i) := by
  intro p l e R s m args below meth c Q D ca z A t XS d pc len ls st S pc2 ls2 st2 S2 aa H locs lm cells slots F I X hd hl hs hc hz K
  obtain ⟨hx, hb, hml, hown, hts, hnm, hcn, hK, hA, hdf, hdl⟩ := F
  obtain rfl : len = 3 := mm_lk_eq hl rfl (by decide)
  have hzc : z.category = 1 := I.2.2.2.2.1.2.2.2.2.1
  have hsz : c.maxLocals = lm.size := by rw [hml, mm_lmsz X.2.2]
  unfold mm_st at hs
  cases hv : mm_fd mm_AC t.2.2.2.2 i with
  | some u =>
    simp only [hv] at hs
    obtain ⟨dp, n, r, rfl, hs1⟩ := mm_i2_inv hs
    obtain ⟨a, r, rfl, hs2⟩ := mm_r1_inv hs1
    obtain ⟨sp, r, rfl, hs3⟩ := mm_i1_inv hs2
    obtain ⟨a0, r, rfl, hs4⟩ := mm_r1_inv hs3
    clear hs hs1 hs2 hs3
    obtain ⟨hg, hs⟩ := mm_gd_inv hs4
    rw [Bool.and_eq_true, decide_eq_true_eq, decide_eq_true_eq] at hg
    obtain ⟨hd1, hcs⟩ := hg
    have hlink := mm_AC_ok _ (mm_fd_mem hv)
    have hnw : nativeFrameWords "java/lang/System" "arraycopy" 5 ≤ 30 := by decide +kernel
    have hroom : ((r.map (mm_ad aa z)).map fun v => v.category).sum + (nativeFrameWords "java/lang/System" "arraycopy" 5 + 11) ≤ R.locals := by
      rw [mm_cs_map hzc]; omega
    have hvr : ∀ v ∈ r, mm_vok S v := mm_t1 (mm_t1 (mm_t1 (mm_t1 (mm_t1 X.2.1))))
    have cpy : ∀ {n0 n1 : Nat}, mm_cpOk sp dp n n0 n1 = true → ¬ sp < 0 ∧ ¬ dp < 0 ∧ ¬ n < 0 ∧ sp.toNatClampNeg + n.toNatClampNeg ≤ n0 ∧ dp.toNatClampNeg + n.toNatClampNeg ≤ n1 := by
      intro n0 n1 h
      unfold mm_cpOk at h
      simp only [Bool.and_eq_true, decide_eq_true_eq, Bool.not_eq_true', decide_eq_false_iff_not] at h
      exact ⟨h.1.1.1.1, h.1.1.1.2, h.1.1.2, h.1.2, h.2⟩
    by_cases h1 : (mm_arr S a0 13 && mm_arr S a 13 && mm_cpOk sp dp n (mm_N S a0) (mm_N S a)) = true
    · rw [if_pos h1] at hs
      obtain ⟨rfl, rfl, rfl, rfl⟩ := mm_go_inv hs
      rw [Bool.and_eq_true, Bool.and_eq_true] at h1
      obtain ⟨ha0, hk0⟩ := mm_arr_sp h1.1.1
      obtain ⟨ha, hk⟩ := mm_arr_sp h1.1.2
      obtain ⟨g1, g2, g3, g4, g5⟩ := cpy h1.2
      have hc0 := mm_ws_get (ca := ca) (aa := aa) ha0
      rw [mm_ce1_i hk0] at hc0
      have hc1 := mm_ws_get (ca := ca) (aa := aa) ha
      rw [mm_ce1_i hk] at hc1
      simp only [List.map_cons]
      rw [mm_ad_ref, mm_ad_ref]
      refine va_copyi hx hb hsz hown (hts _ hlink) (hts _ mm_ac1) (hts _ mm_ac2) (hts _ mm_ac3) hK I.1 I.2.1 I.2.2.1 a0 a 0 0 hc0 hc1 rfl rfl rfl g1 g2 g3 g4 g5 (fun _ _ => rfl) (by omega) hroom hd (fun H1 locs1 a1 a2 a3 => ?_)
      refine K aa H1 locs1 lm cells slots rfl rfl (fun _ _ => rfl) (mm_Ix_sM I ha ?_ a1 a2 a3) ⟨X.1, hvr, X.2.2⟩
      rw [mm_ce1_i (S := mm_sM S a _) hk]
      have e1 : mm_M (mm_sM S a (va_cpy (mm_M S a0) (mm_M S a) sp.toNatClampNeg dp.toNatClampNeg n.toNatClampNeg)) a = va_cpy (mm_M S a0) (mm_M S a) sp.toNatClampNeg dp.toNatClampNeg n.toNatClampNeg := mm_u_self
      rw [e1]; rfl
    · rw [if_neg h1] at hs
      by_cases h1 : (mm_arr S a0 14 && mm_arr S a 14 && mm_cpOk sp dp n (mm_N S a0) (mm_N S a)) = true
      · rw [if_pos h1] at hs
        obtain ⟨rfl, rfl, rfl, rfl⟩ := mm_go_inv hs
        rw [Bool.and_eq_true, Bool.and_eq_true] at h1
        obtain ⟨ha0, hk0⟩ := mm_arr_sp h1.1.1
        obtain ⟨ha, hk⟩ := mm_arr_sp h1.1.2
        obtain ⟨g1, g2, g3, g4, g5⟩ := cpy h1.2
        have hc0 := mm_ws_get (ca := ca) (aa := aa) ha0
        rw [mm_ce1_j hk0] at hc0
        have hc1 := mm_ws_get (ca := ca) (aa := aa) ha
        rw [mm_ce1_j hk] at hc1
        simp only [List.map_cons]
        rw [mm_ad_ref, mm_ad_ref]
        refine va_copyl hx hb hsz hown (hts _ hlink) (hts _ mm_ac1) (hts _ mm_ac2) (hts _ mm_ac3) hK I.1 I.2.1 I.2.2.1 a0 a 1 1 hc0 hc1 rfl rfl rfl g1 g2 g3 g4 g5 (fun _ _ => rfl) (by omega) hroom hd (fun H1 locs1 a1 a2 a3 => ?_)
        refine K aa H1 locs1 lm cells slots rfl rfl (fun _ _ => rfl) (mm_Ix_sL I ?_ a1 a2 a3) ⟨X.1, hvr, X.2.2⟩
        rw [mm_ce1_j (S := mm_sL S a _) hk]
        have e1 : mm_L (mm_sL S a (va_cpy (mm_L S a0) (mm_L S a) sp.toNatClampNeg dp.toNatClampNeg n.toNatClampNeg)) a = va_cpy (mm_L S a0) (mm_L S a) sp.toNatClampNeg dp.toNatClampNeg n.toNatClampNeg := mm_u_self
        rw [e1]; rfl
      · rw [if_neg h1] at hs
        cases hs
  | none =>
    simp only [hv] at hs
    cases hm : mm_fd mm_MX t.2.2.2.2 i with
    | none =>
      simp only [hm] at hs
      cases hq : mm_fd mm_ST t.2.2.2.2 i with
      | none => simp only [hq] at hs; cases hs
      | some q =>
        simp only [hq] at hs
        obtain ⟨-, hs⟩ := mm_gd_inv hs
        cases hs
    | some k =>
      simp only [hm] at hs
      obtain ⟨x, y, r, rfl, hs1⟩ := mm_i2_inv hs
      clear hs
      obtain ⟨hg, hs⟩ := mm_gd_inv hs1
      rw [Bool.and_eq_true, decide_eq_true_eq, decide_eq_true_eq] at hg
      obtain ⟨hd1, hcs⟩ := hg
      obtain ⟨rfl, rfl, rfl, rfl⟩ := mm_go_inv hs
      have hroom : ((r.map (mm_ad aa z)).map fun v => v.category).sum + 13 ≤ R.locals := by
        rw [mm_cs_map hzc]; omega
      have K1 := mm_K0 K I (mm_Xp X fun h => mm_p1 (v := .int (if k = 0 then (if y < x then y else x) else (if x < y then y else x))) trivial (mm_t1 (mm_t1 h)))
      rcases mm_MX_ok _ (mm_fd_mem hm) with ⟨h1, h2⟩ | ⟨h1, h2⟩
      · have h1 : k = 0 := h1
        subst h1
        exact va_mmin hx hb hsz hown (hts _ h2) (hts _ mm_mx_min1) (hts _ mm_mx_0) (hts _ mm_mx_min2) (by omega) hroom (by omega) (by omega) hd K1
      · have h1 : k = 1 := h1
        subst h1
        exact va_mmax hx hb hsz hown (hts _ h2) (hts _ mm_mx_max1) (hts _ mm_mx_0) (hts _ mm_mx_max2) (by omega) hroom (by omega) (by omega) hd K1
theorem mo_invokespecial (i : Nat) : mm_Ok (.invokespecial i) := by
  intro p l e R s m args below meth c Q D ca z A t XS d pc len ls st S pc2 ls2 st2 S2 aa H locs lm cells slots F I X hd hl hs hc hz K
  obtain ⟨hx, hb, hml, hown, hts, hnm, hcn, hK, hA, hdf, hdl⟩ := F
  obtain rfl : len = 3 := mm_lk_eq hl rfl (by decide)
  have hzc : z.category = 1 := I.2.2.2.2.1.2.2.2.2.1
  have hsz : c.maxLocals = lm.size := by rw [hml, mm_lmsz X.2.2]
  unfold mm_st at hs
  cases hv : mm_fd mm_OI t.2.2.2.2 i with
  | some u =>
    simp only [hv] at hs
    obtain ⟨a, r, rfl, hs1⟩ := mm_r1_inv hs
    clear hs
    obtain ⟨hg, hs⟩ := mm_gd_inv hs1
    simp only [Bool.and_eq_true, decide_eq_true_eq] at hg
    obtain ⟨hd1, hcs⟩ := hg
    obtain ⟨rfl, rfl, rfl, rfl⟩ := mm_go_inv hs
    rw [List.map_cons, mm_ad_ref]
    have K1 := mm_K0 K I (mm_Xp X mm_t1)
    have hroom := lv_room (m := m) (pc := pc) (ls := lm) (rest := .ref (aa a) :: r.map (mm_ad aa z)) (st := r.map (mm_ad aa z)) (by rw [mm_cs_map hzc]; exact hcs)
    exact W.objInit hx hb hown (hts _ (mm_OI_ok _ (mm_fd_mem hv))) (hts _ mm_oi1) (hts _ mm_oi2) rfl hsz.symm rfl hd (by omega) (by omega) K1
  | none =>
    simp only [hv] at hs
    cases hq : mm_fd mm_SP t.2.2.2.2 i with
    | none => simp only [hq] at hs; cases hs
    | some q =>
      simp only [hq] at hs
      obtain ⟨-, hs⟩ := mm_gd_inv hs
      obtain ⟨a, r, -, hs⟩ := mm_r1_inv hs
      obtain ⟨-, hs⟩ := mm_gd_inv hs
      cases hs
theorem mo_invokevirtual (i : Nat) : mm_Ok (.invokevirtual i) := by
  intro p l e R s m args below meth c Q D ca z A t XS d pc len ls st S pc2 ls2 st2 S2 aa H locs lm cells slots F I X hd hl hs hc hz K
  unfold mm_st at hs
  cases hq : mm_fd mm_VT t.2.2.2.2 i with
  | none => simp only [hq] at hs; cases hs
  | some q =>
    simp only [hq] at hs
    obtain ⟨-, hs⟩ := mm_gd_inv hs
    obtain ⟨a, r, -, hs⟩ := mm_r1_inv hs
    obtain ⟨-, hs⟩ := mm_gd_inv hs
    cases hy : mm_lu q.2 (mm_rk S a) with
    | none => simp only [hy] at hs; cases hs
    | some y => simp only [hy] at hs; cases hs
end
section
/-! ===== a frame's run; a method's contract; calls ===== -/
theorem mo_stuck {i : Instr} (h : ∀ d t pc ls st S, mm_st d t pc ls st S i = none) : mm_Ok i := by
  intro p l e R s m args below meth c Q D ca z A t XS d pc len ls st S pc2 ls2 st2 S2 aa H locs lm cells slots F I X hd hl hs hc hz K
  rw [h] at hs
  cases hs
theorem mm_ire_inv {st : List Value} {rt : Option FieldType} {S : mm_S} {A : (Nat × List Value × List Value × mm_S) ⊕ ((Nat × List Value × List Value × mm_S) ⊕ (Option Value × mm_S))} (h : mm_ire st rt S = some A) : ∃ (x : Int32) (ty : FieldType), st = [.int x] ∧ rt = some ty ∧ narrow ty (.int x) = .int x ∧ ty ≠ .long ∧ A = .inr (.inr (some (.int x), S)) := by
  unfold mm_ire at h
  split at h
  · split at h
    · rename_i x ty hq
      exact ⟨x, ty, rfl, rfl, hq.1, hq.2, (Option.some.inj h).symm⟩
    · cases h
  · cases h
theorem mm_lre_inv {st : List Value} {rt : Option FieldType} {S : mm_S} {A : (Nat × List Value × List Value × mm_S) ⊕ ((Nat × List Value × List Value × mm_S) ⊕ (Option Value × mm_S))} (h : mm_lre st rt S = some A) : ∃ (x : Int64), st = [.long x] ∧ rt = some .long ∧ A = .inr (.inr (some (.long x), S)) := by
  unfold mm_lre at h
  split at h
  · exact ⟨_, rfl, rfl, (Option.some.inj h).symm⟩
  · cases h
theorem mm_are_inv {st : List Value} {rt : Option FieldType} {S : mm_S} {A : (Nat × List Value × List Value × mm_S) ⊕ ((Nat × List Value × List Value × mm_S) ⊕ (Option Value × mm_S))} (h : mm_are st rt S = some A) : ∃ (a : Nat) (n : String), st = [.ref a] ∧ rt = some (.object n) ∧ A = .inr (.inr (some (.ref a), S)) := by
  unfold mm_are at h
  split at h
  · exact ⟨_, _, rfl, rfl, (Option.some.inj h).symm⟩
  · cases h
theorem mm_vre_inv {st : List Value} {rt : Option FieldType} {S : mm_S} {A : (Nat × List Value × List Value × mm_S) ⊕ ((Nat × List Value × List Value × mm_S) ⊕ (Option Value × mm_S))} (h : mm_vre st rt S = some A) : st = [] ∧ rt = none ∧ A = .inr (.inr (none, S)) := by
  unfold mm_vre at h
  split at h
  · exact ⟨rfl, rfl, (Option.some.inj h).symm⟩
  · cases h
theorem mm_ok_all (i : Instr) : mm_Ok i := by
  cases i with
  | iconst n => exact mo_iconst n
  | bipush n => exact mo_bipush n
  | sipush n => exact mo_sipush n
  | lconst n => exact mo_lconst n
  | ldc n => exact mo_ldc n
  | ldc_w n => exact mo_ldc_w n
  | ldc2_w n => exact mo_ldc2_w n
  | iload_n k => exact mo_iload_n k
  | iload k => exact mo_iload k
  | lload_n k => exact mo_lload_n k
  | lload k => exact mo_lload k
  | aload_n k => exact mo_aload_n k
  | aload k => exact mo_aload k
  | istore_n k => exact mo_istore_n k
  | istore k => exact mo_istore k
  | lstore_n k => exact mo_lstore_n k
  | lstore k => exact mo_lstore k
  | astore_n k => exact mo_astore_n k
  | astore k => exact mo_astore k
  | iinc k n => exact mo_iinc k n
  | iadd => exact mo_iadd
  | isub => exact mo_isub
  | imul => exact mo_imul
  | iand => exact mo_iand
  | ior => exact mo_ior
  | ixor => exact mo_ixor
  | idiv => exact mo_idiv
  | irem => exact mo_irem
  | ishl => exact mo_ishl
  | ishr => exact mo_ishr
  | iushr => exact mo_iushr
  | ineg => exact mo_ineg
  | i2l => exact mo_i2l
  | i2b => exact mo_i2b
  | i2s => exact mo_i2s
  | i2c => exact mo_i2c
  | l2i => exact mo_l2i
  | ladd => exact mo_ladd
  | lsub => exact mo_lsub
  | lmul => exact mo_lmul
  | land => exact mo_land
  | lor => exact mo_lor
  | ldiv => exact mo_ldiv
  | lrem => exact mo_lrem
  | lshl => exact mo_lshl
  | lcmp => exact mo_lcmp
  | dup => exact mo_dup
  | pop => exact mo_pop
  | dup2 => exact mo_dup2
  | goto off => exact mo_goto off
  | ifCond c off => exact mo_ifCond c off
  | if_icmp c off => exact mo_if_icmp c off
  | tableswitch df lo hi offs => exact mo_tableswitch df lo hi offs
  | lookupswitch df ps => exact mo_lookupswitch df ps
  | getstatic i => exact mo_getstatic i
  | getfield i => exact mo_getfield i
  | putfield i => exact mo_putfield i
  | iaload => exact mo_iaload
  | laload => exact mo_laload
  | baload => exact mo_baload
  | aaload => exact mo_aaload
  | iastore => exact mo_iastore
  | lastore => exact mo_lastore
  | bastore => exact mo_bastore
  | aastore => exact mo_aastore
  | arraylength => exact mo_arraylength
  | newarray ty => exact mo_newarray ty
  | anewarray i => exact mo_anewarray i
  | new i => exact mo_new i
  | instanceof i => exact mo_instanceof i
  | invokestatic i => exact mo_invokestatic i
  | invokevirtual i => exact mo_invokevirtual i
  | invokespecial i => exact mo_invokespecial i
  | ireturn =>
    intro p l e R s m args below meth c Q D ca z A t XS d pc len ls st S pc2 ls2 st2 S2 aa H locs lm cells slots F I X hd hl hs hc hz K
    have hs : mm_ire st t.2.2.2.1 S = some _ := hs
    obtain ⟨_, _, _, _, _, _, h⟩ := mm_ire_inv hs
    cases h
  | lreturn =>
    intro p l e R s m args below meth c Q D ca z A t XS d pc len ls st S pc2 ls2 st2 S2 aa H locs lm cells slots F I X hd hl hs hc hz K
    have hs : mm_lre st t.2.2.2.1 S = some _ := hs
    obtain ⟨_, _, _, h⟩ := mm_lre_inv hs
    cases h
  | areturn =>
    intro p l e R s m args below meth c Q D ca z A t XS d pc len ls st S pc2 ls2 st2 S2 aa H locs lm cells slots F I X hd hl hs hc hz K
    have hs : mm_are st t.2.2.2.1 S = some _ := hs
    obtain ⟨_, _, _, _, h⟩ := mm_are_inv hs
    cases h
  | return_ =>
    intro p l e R s m args below meth c Q D ca z A t XS d pc len ls st S pc2 ls2 st2 S2 aa H locs lm cells slots F I X hd hl hs hc hz K
    have hs : mm_vre st t.2.2.2.1 S = some _ := hs
    obtain ⟨_, _, h⟩ := mm_vre_inv hs
    cases h
  | _ => exact mo_stuck fun _ _ _ _ _ _ => rfl
end
section
/-! ===== contracts of whole runs ===== -/
def mm_Rk (t : mm_mT) (pc : Nat) (v : Option Value) : Prop := match v with
  | none => decode t.2.1 pc = .ok (.return_, 1) ∧ t.2.2.2.1 = none
  | some (.int x) => decode t.2.1 pc = .ok (.ireturn, 1) ∧ ∃ ty, t.2.2.2.1 = some ty ∧ narrow ty (.int x) = .int x
  | some (.long _) => decode t.2.1 pc = .ok (.lreturn, 1) ∧ t.2.2.2.1 = some .long
  | some (.ref a) => decode t.2.1 pc = .ok (.areturn, 1) ∧ ∃ n, t.2.2.2.1 = some (.object n)
  | _ => False
def mm_Fm (f : Nat) : Prop := ∀ (p : Program) (l : Launch) (e : Env) (R : Room) (s : State) (m : MethodId) (args : Array Value) (below : List Frame) (meth : Method) (c : Code) (Q : State → Prop) (D : va_G) (ca : Nat → ClassId) (z : Value) (A : Nat → Prop) (t : mm_mT) (XS : Nat × (Nat → Int32)) (d y pc : Nat) (ls st : List Value) (S : mm_S) (v : Option Value) (S' : mm_S) (aa : Nat → Nat) (H : Heap) (locs : List Loc) (lm : Array Slot) (cells slots : Nat),
  mm_mt[y]? = some t → mm_run f d y pc ls st S = some (v, S') → mm_Fx p R s m args meth c D ca A d t → mm_Ix s D ca z A t XS aa S H locs → mm_Sx aa z S t ls lm st → cells + mm_n S' ≤ R.cells + mm_n S → slots + mm_z S' ≤ R.slots + mm_z S →
  (∀ (pc' : Nat) (aa' : Nat → Nat) (H' : Heap) (locs' : List Loc) (lm' : Array Slot) (cells' slots' : Nat), cells' + mm_n S = cells + mm_n S' → slots' + mm_z S = slots + mm_z S' → (∀ i, i < mm_n S ∨ 1000000 ≤ i → aa' i = aa i) → mm_Rk t pc' v → mm_Ix s D ca z A t XS aa' S' H' locs' → (∀ w ∈ v.toList, mm_vok S' w) → W p l e R s m args below meth c H' locs' cells' slots' Q (F0 m pc' lm' (v.toList.map (mm_ad aa' z)))) →
  W p l e R s m args below meth c H locs cells slots Q (F0 m pc lm (st.map (mm_ad aa z)))
theorem mm_run_mono : ∀ (f d y pc : Nat) (ls st : List Value) (S : mm_S) (v : Option Value) (S' : mm_S), mm_run f d y pc ls st S = some (v, S') → mm_n S ≤ mm_n S' ∧ mm_z S ≤ mm_z S' := by
  intro f
  induction f with
  | zero => intro d y pc ls st S v S' h; cases h
  | succ f ih =>
    intro d y pc ls st S v S' h
    unfold mm_run at h
    cases ht : mm_mt[y]? with
    | none => rw [ht] at h; cases h
    | some t =>
      simp only [ht] at h
      cases hd : decode t.2.1 pc with
      | error x => rw [hd] at h; cases h
      | ok il =>
        obtain ⟨i, len⟩ := il
        simp only [hd] at h
        by_cases hl : (mm_lk i len && mm_mo i S (mm_st d t pc ls st S i)) = true
        · simp only [if_pos hl] at h
          rw [Bool.and_eq_true] at hl
          obtain ⟨-, hm⟩ := hl
          cases ha : mm_st d t pc ls st S i with
          | none => rw [ha] at h; cases h
          | some B =>
            rw [ha] at hm
            rcases B with q | q | q
            · simp only [ha] at h
              simp only [mm_mo, Bool.and_eq_true, decide_eq_true_eq] at hm
              have := ih _ _ _ _ _ _ _ _ h
              omega
            · simp only [ha] at h
              simp only [mm_mo, Bool.and_eq_true, decide_eq_true_eq] at hm
              cases d with
              | zero => cases h
              | succ d =>
                simp only at h
                by_cases hq : q.1 < mm_nc
                · simp only [if_pos hq] at h
                  cases hu : mm_mt[q.1]? with
                  | none => rw [hu] at h; cases h
                  | some u =>
                    simp only [hu] at h
                    by_cases hf : (mm_as q.2.1).length ≤ u.2.2.1
                    · simp only [if_pos hf] at h
                      cases hr : mm_run f d q.1 0 (mm_en u.2.2.1 q.2.1) [] q.2.2.2 with
                      | none => rw [hr] at h; cases h
                      | some w =>
                        rw [hr] at h
                        have h1 := ih _ _ _ _ _ _ _ _ hr
                        have h2 := ih _ _ _ _ _ _ _ _ h
                        omega
                    · rw [if_neg hf] at h; cases h
                · rw [if_neg hq] at h; cases h
            · simp only [ha] at h
              simp only [mm_mo, Bool.and_eq_true, decide_eq_true_eq] at hm
              cases h
              exact hm.1
        · rw [if_neg hl] at h; cases h
theorem mm_Ev_vm {z : Value} {aa : Nat → Nat} {A : Nat → Prop} {u U : State} {H : Heap} (hv : U.vm = u.vm) (E : mm_Ev z aa A u H) : mm_Ev z aa A U H := by
  have al : u.vm.Alike U.vm := by rw [hv]; exact Vm.Alike.refl _
  exact ⟨vk_S.moved al E.1, fun k hk => vk_R.same hv (E.2.1 k hk), va_Z.moved al E.2.2.1, va_Z.moved al E.2.2.2.1, E.2.2.2.2.1, fun q hq => va_Nc.moved al (E.2.2.2.2.2.1 q hq), fun q hq => va_Nw.same rfl hv.symm (E.2.2.2.2.2.2.1 q hq), fun q hq => va_AO.moved al (E.2.2.2.2.2.2.2.1 q hq), fun q hq => va_Nw.same rfl hv.symm (E.2.2.2.2.2.2.2.2 q hq)⟩
theorem mm_Ev_warm {z : Value} {aa : Nat → Nat} {A : Nat → Prop} {s U : State} {H : Heap} (hW : s.WarmedH U.vm) (E : mm_Ev z aa A s H) : mm_Ev z aa A U H := by
  have al := hW.alike
  exact ⟨vk_S.moved al E.1, fun k hk => vk_R.warm hW (E.2.1 k hk), va_Z.moved al E.2.2.1, va_Z.moved al E.2.2.2.1, E.2.2.2.2.1, fun q hq => va_Nc.moved al (E.2.2.2.2.2.1 q hq), fun q hq => va_Nw.warmC hW (E.2.2.2.2.2.2.1 q hq), fun q hq => va_AO.moved al (E.2.2.2.2.2.2.2.1 q hq), fun q hq => va_Nw.warmM hW (E.2.2.2.2.2.2.2.2 q hq)⟩
theorem mm_Ev_kept {z : Value} {aa : Nat → Nat} {A B : Nat → Prop} {U : State} {H H1 : Heap} (hq : ∀ a : Nat, a < H.size → ¬ A a → H1[a]? = H[a]?) (hAB : ∀ q, B q → A q) (E : mm_Ev z aa A U H) : mm_Ev z aa B U H1 :=
  ⟨(E.1.kept hq).narrow hAB, E.2.1, (E.2.2.1.kept hq).narrow hAB, (E.2.2.2.1.kept hq).narrow hAB, E.2.2.2.2⟩
theorem mm_free {A : Nat → Prop} {ws : va_W} {H0 H : Heap} {locs : List Loc} (hD : va_D A ws) (hS : va_S A H0 H locs) (hA : ∀ q, H0.size ≤ q → A q) : ∀ q, va_A ws H.size q → A q := by
  intro q h
  rcases h with ⟨k, e, h⟩ | h
  · exact hD.2 k (q, e) h
  · exact hA q (Nat.le_trans hS.1 h)
def mm_rm (d k n : Nat) : Room := { frames := d, cells := k, slots := n, locals := 60 * d }
def mm_Pc (D : va_G) (ca : Nat → ClassId) (z : Value) (aa : Nat → Nat) (S : mm_S) (sz : Nat) (U : State) : Prop := U.heap.size = sz ∧ va_P D mm_cl_s (mm_ws ca aa S) U.heap ∧ va_K D mm_cl_s (mm_ats ca) U ∧ va_D (fun _ => True) (mm_ws ca aa S) ∧ mm_Ev z aa (va_A (mm_ws ca aa S) sz) U U.heap
def mm_Qc (D : va_G) (ca : Nat → ClassId) (z : Value) (aa : Nat → Nat) (XS : Nat × (Nat → Int32)) (S : mm_S) (sz : Nat) (v : Option Value) (S' : mm_S) : Array Value → State → Outcome → State → Prop := fun _ st o t =>
  (∃ aa' : Nat → Nat, o = .returned (v.map (mm_ad aa' z)) ∧ (∀ i, i < mm_n S ∨ 1000000 ≤ i → aa' i = aa i) ∧ va_P D mm_cl_s (mm_ws ca aa' S') t.heap ∧ va_D (va_A (mm_ws ca aa S) sz) (mm_ws ca aa' S') ∧ mm_wf S' ∧ mm_N S' mm_SC = XS.1 ∧ mm_M S' mm_SC = XS.2 ∧ ∀ w ∈ v.toList, mm_vok S' w) ∧ va_F (va_A (mm_ws ca aa S) sz) st t
theorem mm_en_vok {S : mm_S} {n : Nat} {as : List Value} (h : ∀ w ∈ as, mm_vok S w) : ∀ w ∈ mm_en n as, mm_vok S w := by
  have h2 : ∀ (l : List Value), (∀ w ∈ l, mm_vok S w) → ∀ w ∈ mm_as l, mm_vok S w := by
    intro l
    induction l with
    | nil => intro _ w hw; cases hw
    | cons v l ih =>
      intro hl w hw
      unfold mm_as at hw
      split at hw
      · rcases List.mem_cons.mp hw with rfl | hw
        · exact hl _ List.mem_cons_self
        · rcases List.mem_cons.mp hw with rfl | hw
          · exact trivial
          · exact ih (mm_t1 hl) w hw
      · rcases List.mem_cons.mp hw with rfl | hw
        · exact hl _ List.mem_cons_self
        · exact ih (mm_t1 hl) w hw
  intro w hw
  rcases List.mem_append.mp hw with hw | hw
  · exact h2 as h w hw
  · rw [(List.mem_replicate.mp hw).2]; exact trivial
theorem mm_met {f : Nat} (hF : mm_Fm f) {y : Nat} {u : mm_mT} (hy : mm_mc[y]? = some u) {d : Nat} {as : List Value} {S : mm_S} {v : Option Value} {S' : mm_S} (hlen : (mm_as as).length ≤ u.2.2.1) (hr : mm_run f d y 0 (mm_en u.2.2.1 as) [] S = some (v, S')) (l : Launch) (D : va_G) (ca : Nat → ClassId) (z : Value) (aa : Nat → Nat) (XS : Nat × (Nat → Int32)) (sz : Nat) (hwf : mm_wf S) (hvok : ∀ w ∈ as, mm_vok S w) (hN : mm_N S mm_SC = XS.1) (hM : mm_M S mm_SC = XS.2) :
    Met l u.1 (.code u.1 u.2.1 u.2.2.1 u.2.2.2.1 :: mm_G) (mm_rm d (mm_n S' - mm_n S) (mm_z S' - mm_z S)) (va_Pc (as.map (mm_ad aa z)) (mm_Pc D ca z aa S sz)) (mm_Qc D ca z aa XS S sz v S') (mm_n S' - mm_n S) (mm_z S' - mm_z S) (va_A (mm_ws ca aa S) sz) := by
  obtain ⟨u1, u2, u3, u4, u5, u6⟩ := mm_mc_ok u (List.mem_of_getElem? hy)
  have hmono := mm_run_mono _ _ _ _ _ _ _ _ _ hr
  have hyt : mm_mt[y]? = some u := by
    unfold mm_mt
    rw [List.getElem?_append_left (List.getElem?_eq_some_iff.mp hy).1]
    exact hy
  refine Met.ofW (cc := u.2.1) (maxL := u.2.2.1) (ret := u.2.2.2.1) u2 rfl ?_
  intro p e s m args below meth c s₁ B hml hv
  obtain ⟨rfl, hsz, hP, hK, hD0, hE⟩ := hv
  have hx := B.exec
  have hb := B.bytes
  have hrt := B.returns
  have hts0 := atoms_spec (ws := .code u.1 u.2.1 u.2.2.1 u.2.2.2.1 :: mm_G) B.pre
  have hts : ∀ w ∈ mm_G, w.before (as.map (mm_ad aa z)).toArray s = true := fun w hw => hts0 w (List.mem_cons_of_mem _ hw)
  have hown : s.vm.findClass u.1.cls = some m.cls := findClass_of_methodNamed B.named
  have hlocks := B.notSynchronized
  have hin : meth.name = u.1.name := (name_of_methodNamed B.named B.method).1
  have hzc : z.category = 1 := hE.2.2.2.2.1
  subst hsz
  rw [lg_entry_eq]
  rw [u4] at hown
  refine hF p l e (mm_rm d (mm_n S' - mm_n S) (mm_z S' - mm_z S)) s m _ below meth c _ D ca z (va_A (mm_ws ca aa S) s.heap.size) u XS d y 0 (mm_en u.2.2.1 as) [] S v S' aa s.heap [] _ 0 0 hyt hr
    ⟨hx, hb, hml, hown, hts, fun h => hin.trans h, u4, hK, fun q h => Or.inr h, Nat.le_refl _, Nat.le_refl _⟩
    ⟨hP, hD0.self, va_S.rf, hwf, hE, hN, hM, fun h => absurd h u5⟩
    ⟨mm_en_vok hvok, fun w h => (by cases h), mm_en_Lr hzc hlen⟩ (by show 0 + mm_n S' ≤ (mm_n S' - mm_n S) + mm_n S; omega) (by show 0 + mm_z S' ≤ (mm_z S' - mm_z S) + mm_z S; omega) ?_
  intro pc' aa' H' locs' lm' cells' slots' hc1 hz1 hag hk I' hvk
  obtain rfl : cells' = mm_n S' - mm_n S := by omega
  obtain rfl : slots' = mm_z S' - mm_z S := by omega
  have hfree : ∀ q ∈ locs', va_A (mm_ws ca aa S) s.heap.size q.base := I'.2.2.1.2.2
  have hq : ∀ (w : Option Value), w = v.map (mm_ad aa' z) → ∀ t : State, t.heap = H' → s.WarmedH t.vm → mm_Qc D ca z aa XS S s.heap.size v S' (as.map (mm_ad aa z)).toArray s (.returned w) t := by
    intro w hw t ht _
    exact ⟨⟨aa', by rw [hw], hag, by rw [ht]; exact I'.1, I'.2.1, I'.2.2.2.1, I'.2.2.2.2.2.1, I'.2.2.2.2.2.2.1, hvk⟩, I'.2.2.1.F ht⟩
  match v, hk, hq with
  | none, hk, hq => exact W.vret hx hb (hrt.trans hk.2) (hq none rfl) hfree hk.1 hlocks
  | some (.int x), hk, hq =>
    obtain ⟨h1, ty, h2, h3⟩ := hk
    exact W.zret hx hb (hrt.trans h2) h3 (hq _ rfl) hfree h1 hlocks
  | some (.long x), hk, hq => exact W.lret hx hb (hrt.trans hk.2) (hq _ rfl) hfree hk.1 hlocks
  | some (.ref a), hk, hq =>
    obtain ⟨h1, n, h2⟩ := hk
    exact W.aret hx hb (hrt.trans h2) (Or.inl ⟨n, rfl⟩) (Or.inr ⟨aa' a, mm_ad_ref⟩) (hq _ rfl) hfree h1 hlocks
theorem mm_blind {D : va_G} {ca : Nat → ClassId} {z : Value} {aa : Nat → Nat} {S : mm_S} {sz : Nat} {av : List Value} : FrameBlind (va_Pc av (mm_Pc D ca z aa S sz)) := by
  intro a U g mk h
  obtain ⟨h1, h2, h3, h4, h5, h6⟩ := h
  exact ⟨h1, h2, h3, va_K.moved (u := U) (U := U.calling g mk a) (Vm.Alike.refl U.vm) h4, h5, mm_Ev_vm (u := U) (U := U.calling g mk a) rfl h6⟩
section MMC
variable {p : Program} {l : Launch} {e : Env} {R : Room} {s : State} {m : MethodId} {args : Array Value} {below : List Frame} {meth : Method} {c : Code} {H : Heap} {locs : List Loc} {cells slots : Nat} {Q : State → Prop}
theorem mm_callg {D : va_G} {ca : Nat → ClassId} {z : Value} {aa : Nat → Nat} {XS : Nat × (Nat → Int32)} {S S' : mm_S} {v : Option Value} {pc mc ms : Nat} {lm : Array Slot} {st0 rest : List Value} {a : Array Value} {A0 : Nat → Prop} {H0 : Heap}
    (hr : va_Run p l e R s m args below meth c H locs cells slots mc ms (F0 m pc lm st0) rest (mm_Qc D ca z aa XS S H.size v S' a) (va_A (mm_ws ca aa S) H.size)) (hS : va_S A0 H0 H locs) (hf : ∀ q, va_A (mm_ws ca aa S) H.size q → A0 q)
    (kk : ∀ (aa' : Nat → Nat) (H1 : Heap) (locs1 : List Loc), (∀ i, i < mm_n S ∨ 1000000 ≤ i → aa' i = aa i) → va_P D mm_cl_s (mm_ws ca aa' S') H1 → va_D A0 (mm_ws ca aa' S') → mm_wf S' → mm_N S' mm_SC = XS.1 → mm_M S' mm_SC = XS.2 → (∀ w ∈ v.toList, mm_vok S' w) → va_S A0 H0 H1 locs1 → W p l e R s m args below meth c H1 locs1 (cells + mc) (slots + ms) Q (F0 m (pc + 3) lm ((v.toList.map (mm_ad aa' z)) ++ rest))) :
    W p l e R s m args below meth c H locs cells slots Q (F0 m pc lm st0) := by
  intro T hT X
  obtain ⟨w, st₀, t, T', L, h0, X', hL, e1, e2, ⟨⟨aa', hv, hag, hP1, hD1, hw1, hN1, hM1, hvk⟩, hz, hk⟩, st⟩ := hr T hT X
  cases hv
  rw [h0] at hz hk
  obtain ⟨t2, a1, b1⟩ := kk aa' T'.heap (locs ++ L) hag (by rw [e1]; exact hP1) (hD1.weaken fun _ q _ h => hf q.1 h) hw1 hN1 hM1 hvk
    ⟨Nat.le_trans hS.1 (by rw [e1]; exact hz), fun q h1 h2 => by rw [e1, hk q (Nat.lt_of_lt_of_le h1 hS.1) (fun z => h2 (hf q z))]; exact hS.2.1 q h1 h2, fun q hq => by
      rcases List.mem_append.mp hq with h | h
      · exact hS.2.2 q h
      · exact hf _ (hL q h)⟩ T' rfl X'
  refine ⟨t2, st t2 ?_, b1⟩
  have e3 : (v.map (mm_ad aa' z)).toList ++ rest = v.toList.map (mm_ad aa' z) ++ rest := by cases v <;> rfl
  rw [e3]
  exact a1
end MMC
end
section
/-! ===== calls ===== -/
theorem mm_i1_some {st : List Value} {f : Int32 → List Value → mm_Act} {B : (Nat × List Value × List Value × mm_S) ⊕ ((Nat × List Value × List Value × mm_S) ⊕ (Option Value × mm_S))} (h : mm_i1 st f = some B) : ∃ x r, st = .int x :: r ∧ f x r = some B := by
  unfold mm_i1 at h
  split at h
  · exact ⟨_, _, rfl, h⟩
  · cases h
theorem mm_i2_some {st : List Value} {f : Int32 → Int32 → List Value → mm_Act} {B : (Nat × List Value × List Value × mm_S) ⊕ ((Nat × List Value × List Value × mm_S) ⊕ (Option Value × mm_S))} (h : mm_i2 st f = some B) : ∃ x y r, st = .int y :: .int x :: r ∧ f x y r = some B := by
  unfold mm_i2 at h
  split at h
  · exact ⟨_, _, _, rfl, h⟩
  · cases h
theorem mm_r1_some {st : List Value} {f : Nat → List Value → mm_Act} {B : (Nat × List Value × List Value × mm_S) ⊕ ((Nat × List Value × List Value × mm_S) ⊕ (Option Value × mm_S))} (h : mm_r1 st f = some B) : ∃ (x : Nat) (r : List Value), st = .ref x :: r ∧ f x r = some B := by
  unfold mm_r1 at h
  split at h
  · exact ⟨_, _, rfl, h⟩
  · cases h
theorem mm_gd_some {b : Bool} {C : mm_Act} {B : (Nat × List Value × List Value × mm_S) ⊕ ((Nat × List Value × List Value × mm_S) ⊕ (Option Value × mm_S))} (h : mm_gd b C = some B) : b = true ∧ C = some B := by
  unfold mm_gd at h
  split at h
  · exact ⟨by assumption, h⟩
  · cases h
theorem mm_ca_inv {y z : Nat} {as st as' st' : List Value} {S S' : mm_S} (h : mm_ca y as st S = some (.inr (.inl (z, as', st', S')))) : y = z ∧ as = as' ∧ st = st' ∧ S = S' := by
  unfold mm_ca at h
  simp only [Option.some.injEq, Sum.inr.injEq, Sum.inl.injEq, Prod.mk.injEq] at h
  exact h
theorem mm_td (st : List Value) (n : Nat) : (st.take n).reverse.reverse ++ st.drop n = st := by rw [List.reverse_reverse, List.take_append_drop]
/-- a call through an inherited name of a superclass's method -/
theorem mm_callSU {p : Program} {l : Launch} {e : Env} {R : Room} {s : State} {m : MethodId} {args : Array Value} {below : List Frame} {meth : Method} {c : Code} {T : State} {locs : List Loc} {cells slots : Nat} (X : Stand p l e R s m args below meth c T locs cells slots) (hexec : p.tables.exec = Jvm.exec) {own : String} {index : Nat} {x y : MethodName} {bytes : ByteArray} {maxL : Nat} {ret : Option FieldType}
    (hown : s.vm.findClass own = some m.cls) (hlink : (Cond.methodLink own index x).before args s = true) (hsame : (Cond.sameMethod x.cls y.cls x.name x.desc).before args s = true) (hsup : (Cond.superclass own x.cls).before args s = true) (hup : x.cls = y.cls ∨ (Cond.superclass x.cls y.cls).before args s = true) (hyx : y = ⟨y.cls, x.name, x.desc⟩)
    (hinst : (Cond.instanceMethod y).before args s = true) (hcode : (Cond.code y bytes maxL ret).before args s = true) (hno : x.name ≠ "<init>")
    {W : Nat} {Pre : Pt → Array Value → Prop} {Post : Pt → Array Value → Option Value → Pt → Prop} (hK : Back l R p e below s args y 3 W Pre Post)
    {b : Addr} {cellB : Cell} {kB : Class} (hcell : T.heap[b]? = some cellB) (hobj : cellB.vm.isStatics = false) (hkB : s.vm.classes[cellB.cls]? = some kB)
    {g : JFrame} (hg : g.method = m) (hsize : g.locals.size = c.maxLocals) {argsL rest : List Value} (hlen : ∀ sig, parseMethodDescriptor x.desc = some sig → argsL.length = sig.parameters.length)
    (hstack : g.stack = argsL.reverse ++ .ref b :: rest) (hW : 2 * g.monitorRoom + (rest.map fun v => v.category).sum ≤ W) (hdg : decode c.code g.pc = .ok (.invokespecial index, 3))
    (hpre : ∀ vm₁, s.WarmedH vm₁ → Pre ⟨T.setVm vm₁, locs, cells, slots⟩ (Value.ref b :: argsL).toArray) :
    ∃ (v : Option Value) (vm₁ : Vm) (B : Pt), s.WarmedH vm₁ ∧ Stand p l e R s m args below meth c B.U B.locs B.cells B.slots ∧ Post ⟨T.setVm vm₁, locs, cells, slots⟩ (Value.ref b :: argsL).toArray v B ∧
      ∀ target, Steps p.tables e below (B.U.setTop { g with pc := g.pc + 3, stack := v.toList ++ rest }) target → Steps p.tables e below (T.setTop g) target := by
  obtain ⟨mk, methM, hnamed, hmethM, hstM, habM⟩ := Cond.instanceMethod_spec hinst
  obtain ⟨methM', cM, hmethM', -, -, -, -, -, -, hsigM⟩ := Cond.code_spec hnamed hcode
  cases hmethM.symm.trans hmethM'
  obtain ⟨ps, dk, kp, hps, hdk, hkp, hsuper, -, -, hnid⟩ := Cond.superclass_spec hown hsup
  have hn : s.methodNamed? ⟨y.cls, x.name, x.desc⟩ = some mk := by rw [← hyx]; exact hnamed
  have hsigX : parseMethodDescriptor x.desc = some methM.sig := by
    rw [hyx] at hsigM
    exact hsigM
  have hmc := findClass_of_methodNamed hnamed
  have hsub : s.vm.isSubclass ps mk.cls = true := by
    rcases hup with h | h
    · rw [h] at hps
      have hpm : ps = mk.cls := Option.some.inj (hps.symm.trans hmc)
      rw [hpm]; simp [Vm.isSubclass, Vm.isSubclassAux]
    · obtain ⟨ps2, dk2, kp2, hps2, hdk2, hkp2, hsuper2, -, -, -⟩ := Cond.superclass_spec hps h
      have hpm : ps2 = mk.cls := Option.some.inj (hps2.symm.trans hmc)
      rw [← hpm]
      have hsz : ∃ k, s.vm.classes.size = k + 1 := ⟨s.vm.classes.size - 1, by have := (Array.getElem?_eq_some_iff.mp hdk2).1; omega⟩
      obtain ⟨k, hk⟩ := hsz
      unfold Vm.isSubclass
      rw [hk]
      simp only [Vm.isSubclassAux, hdk2, hsuper2]
      simp
  obtain ⟨vm₁, X₁, hstep₁⟩ := X.invokespecialUp hexec hown hlink hsame hn hmethM hstM habM hno hdk hnid hps hsuper hsub (a := b) (cell := cellB) hcell
    (fun z h => by rw [h] at hobj; cases hobj) hkB (g := g) hg (argsL := argsL) (rest := rest) (hlen _ hsigX) hstack hdg
  obtain ⟨v, B, X', hpost, hsteps⟩ := hK m meth c ⟨T.setVm vm₁, locs, cells, slots⟩ { g with stack := rest } (.invokespecial index) mk (Value.ref b :: argsL).toArray X₁ hg hsize hdg hW (X₁.named hnamed) (hpre vm₁ X₁.warmed)
  exact ⟨v, vm₁, B, X₁.warmed, X', hpost, fun target h => hstep₁ _ (by rw [doInvoke_state]; exact hsteps.trans h)⟩
section MMD
variable {p : Program} {l : Launch} {e : Env} {R : Room} {s : State} {m : MethodId} {args : Array Value} {below : List Frame} {meth : Method} {c : Code} {H : Heap} {locs : List Loc} {cells slots : Nat} {Q : State → Prop} {D : va_G} {ca : Nat → ClassId} {z : Value} {A : Nat → Prop} {t u : mm_mT} {XS : Nat × (Nat → Int32)} {d pc y : Nat} {ls st as st' : List Value} {S S1 : mm_S} {aa : Nat → Nat} {lm : Array Slot} {Qc : Array Value → State → Outcome → State → Prop} {mc ms : Nat} {free : Addr → Prop}
theorem mm_preS (F : mm_Fx p R s m args meth c D ca A (d + 1) t) (I : mm_Ix s D ca z A t XS aa S H locs) : FrameBlind (va_Pc (as.map (mm_ad aa z)) (mm_Pc D ca z aa S H.size)) ∧ ∀ U : State, U.heap = H → s.WarmedH U.vm → va_Pc (as.map (mm_ad aa z)) (mm_Pc D ca z aa S H.size) (as.map (mm_ad aa z)).toArray U := by
  refine ⟨mm_blind, fun U hU hW => ⟨rfl, by rw [hU], by rw [hU]; exact I.1, va_K.moved hW.alike F.2.2.2.2.2.2.2.1, I.2.1.weaken (fun _ _ _ _ => trivial), ?_⟩⟩
  rw [hU]
  exact mm_Ev_warm hW (mm_Ev_kept (fun a h1 h2 => I.2.2.1.2.1 a h1 h2) (mm_free I.2.1 I.2.2.1 F.2.2.2.2.2.2.2.2.1) I.2.2.2.2.1)
theorem mm_cb_of (F : mm_Fx p R s m args meth c D ca A (d + 1) t) (hu : mm_okT u) {own : String} {index n : Nat} (hini : Cond.initialized u.1.cls ∈ mm_G) (hl : Cond.methodLink own index u.1 ∈ mm_G) (hds : (parseMethodDescriptor u.1.desc).map (fun d => d.parameters.length) = some n) : CallB R s args own index u.1 u.2.1 u.2.2.1 u.2.2.2.1 (.code u.1 u.2.1 u.2.2.1 u.2.2.2.1 :: mm_G) (mm_rm d mc ms) mc ms n := by
  have hts := F.2.2.2.2.1
  have h1 := F.2.2.2.2.2.2.2.2.2
  have h3 := hu.2.2.1
  refine callB_of n hts (mm_Ggood (ws := .code u.1 u.2.1 u.2.2.1 u.2.2.2.1 :: mm_G) ?_) rfl rfl rfl (hts _ hini) (hts _ hl) ⟨hu.2.2.2.2.2.1, hu.2.2.2.2.2.2, hds⟩ ⟨?_, ?_⟩
  · intro w hw
    rcases List.mem_cons.mp hw with rfl | hw
    · exact hu.1
    · exact hw
  · show d + 1 ≤ R.frames; exact h1.1
  · show 8 + (u.2.2.1 + 11) + 60 * d ≤ R.locals; omega
theorem mm_back (F : mm_Fx p R s m args meth c D ca A (d + 1) t) (hu : mm_okT u) (hini : Cond.initialized u.1.cls ∈ mm_G) (hM : Met l u.1 (.code u.1 u.2.1 u.2.2.1 u.2.2.2.1 :: mm_G) (mm_rm d mc ms) (va_Pc (as.map (mm_ad aa z)) (mm_Pc D ca z aa S H.size)) Qc mc ms free) : Back l R p e below s args u.1 3 8 (PreOf R mc ms (va_Pc (as.map (mm_ad aa z)) (mm_Pc D ca z aa S H.size))) (PostOf Qc mc ms free) := by
  have hts := F.2.2.2.2.1
  have h1 := F.2.2.2.2.2.2.2.2.2
  have h3 := hu.2.2.1
  have hg : ∀ w ∈ (Cond.code u.1 u.2.1 u.2.2.1 u.2.2.2.1 :: mm_G), w ∈ mm_G := by
    intro w hw
    rcases List.mem_cons.mp hw with rfl | hw
    · exact hu.1
    · exact hw
  exact back_of (bytes := u.2.1) (maxL := u.2.2.1) (ret := u.2.2.2.1) hM mm_blind rfl rfl (by show d + 1 ≤ R.frames; exact h1.1) (by show 8 + (u.2.2.1 + 11) + 60 * d ≤ R.locals; omega) (pay_in hts (mm_Ggood hg)) List.mem_cons_self (fun a' U hW => word_at hW (mm_Ggood hg _ (List.mem_cons_of_mem _ hini)).2 (hts _ hini))
theorem mm_ca_sp {i : Instr} (hi : mm_iv i = true) (hs : mm_st (d + 1) t pc ls st S i = some (.inr (.inl (y, as, st', S1)))) : S = S1 ∧ ((∀ v ∈ st, mm_vok S v) → (∀ v ∈ as, mm_vok S v) ∧ ∀ v ∈ st', mm_vok S v) := by
  have htake : ∀ n, (∀ v ∈ st, mm_vok S v) → (∀ v ∈ (st.take n).reverse, mm_vok S v) ∧ ∀ v ∈ st.drop n, mm_vok S v := fun n h => ⟨fun v hv => h v (List.mem_of_mem_take (List.mem_reverse.mp hv)), fun v hv => h v (List.mem_of_mem_drop hv)⟩
  cases i with
  | invokestatic k =>
    unfold mm_st at hs
    cases hv : mm_fd mm_AC t.2.2.2.2 k with
    | some q =>
      simp only [hv] at hs
      obtain ⟨_, _, _, _, hs⟩ := mm_i2_some hs
      obtain ⟨_, _, _, hs⟩ := mm_r1_some hs
      obtain ⟨_, _, _, hs⟩ := mm_i1_some hs
      obtain ⟨_, _, _, hs⟩ := mm_r1_some hs
      obtain ⟨_, hs⟩ := mm_gd_some hs
      split at hs
      · cases hs
      · split at hs
        · cases hs
        · cases hs
    | none =>
      simp only [hv] at hs
      cases hm : mm_fd mm_MX t.2.2.2.2 k with
      | some q =>
        simp only [hm] at hs
        obtain ⟨_, _, _, _, hs⟩ := mm_i2_some hs
        obtain ⟨_, hs⟩ := mm_gd_some hs
        cases hs
      | none =>
        simp only [hm] at hs
        cases hq : mm_fd mm_ST t.2.2.2.2 k with
        | none => simp only [hq] at hs; cases hs
        | some q =>
          simp only [hq] at hs
          obtain ⟨_, hs⟩ := mm_gd_some hs
          obtain ⟨rfl, rfl, rfl, rfl⟩ := mm_ca_inv hs
          exact ⟨rfl, htake _⟩
  | invokevirtual k =>
    unfold mm_st at hs
    cases hq : mm_fd mm_VT t.2.2.2.2 k with
    | none => simp only [hq] at hs; cases hs
    | some q =>
      simp only [hq] at hs
      obtain ⟨_, hs⟩ := mm_gd_some hs
      obtain ⟨a, r, hdr, hs⟩ := mm_r1_some hs
      obtain ⟨_, hs⟩ := mm_gd_some hs
      cases hy : mm_lu q.2 (mm_rk S a) with
      | none => simp only [hy] at hs; cases hs
      | some w =>
        simp only [hy] at hs
        obtain ⟨rfl, rfl, rfl, rfl⟩ := mm_ca_inv hs
        refine ⟨rfl, fun h => ?_⟩
        obtain ⟨h1, h2⟩ := htake q.1 h
        rw [hdr] at h2
        exact ⟨mm_p1 (h2 _ List.mem_cons_self) h1, mm_t1 h2⟩
  | invokespecial k =>
    unfold mm_st at hs
    cases hv : mm_fd mm_OI t.2.2.2.2 k with
    | some q =>
      simp only [hv] at hs
      obtain ⟨_, _, _, hs⟩ := mm_r1_some hs
      obtain ⟨_, hs⟩ := mm_gd_some hs
      cases hs
    | none =>
      simp only [hv] at hs
      cases hq : mm_fd mm_SP t.2.2.2.2 k with
      | none => simp only [hq] at hs; cases hs
      | some q =>
        simp only [hq] at hs
        obtain ⟨_, hs⟩ := mm_gd_some hs
        obtain ⟨a, r, hdr, hs⟩ := mm_r1_some hs
        obtain ⟨_, hs⟩ := mm_gd_some hs
        obtain ⟨rfl, rfl, rfl, rfl⟩ := mm_ca_inv hs
        refine ⟨rfl, fun h => ?_⟩
        obtain ⟨h1, h2⟩ := htake q.1 h
        rw [hdr] at h2
        exact ⟨mm_p1 (h2 _ List.mem_cons_self) h1, mm_t1 h2⟩
  | _ => cases hi
theorem mm_lu_mem : ∀ {l : List (Nat × Nat)} {k y : Nat}, mm_lu l k = some y → (k, y) ∈ l
  | [], k, y, h => by simp [mm_lu] at h
  | q :: l, k, y, h => by
    unfold mm_lu at h
    split at h
    · rename_i hc
      obtain ⟨a, b⟩ := q
      simp only [beq_iff_eq] at hc
      cases h
      rw [← hc]; exact List.mem_cons_self
    · exact List.mem_cons_of_mem _ (mm_lu_mem h)
/-- the receiver's class -/
theorem mm_rcv (F : mm_Fx p R s m args meth c D ca A (d + 1) t) (I : mm_Ix s D ca z A t XS aa S H locs) {a k : Nat} (hk : mm_rk S a = k) (h : k < 13 ∨ k = 100) : ∃ cellB : Cell, H[aa a]? = some cellB ∧ cellB.vm.isStatics = false ∧ s.vm.findClass (mm_ck k) = some cellB.cls := by
  unfold mm_rk at hk
  split at hk
  · rename_i ha
    split at hk
    · rename_i h13
      subst hk
      have hcell := mm_ws_get (ca := ca) (aa := aa) ha
      rw [mm_ce1_obj h13] at hcell
      exact va_recv F.2.2.2.2.2.2.2.1 I.1 (mm_cls_get _ h13) hcell
    · omega
  · split at hk
    · rename_i hS
      subst hk
      obtain ⟨k, hk, rfl⟩ := mm_isS_sp hS
      exact vk_recv (adK := fun k => aa (1000000 + 2 * k)) (i := k) I.2.2.2.2.1.1 hk I.2.2.1
    · omega
theorem mm_ca_run {i : Instr} {len : Nat} (hi : mm_iv i = true) (F : mm_Fx p R s m args meth c D ca A (d + 1) t) (I : mm_Ix s D ca z A t XS aa S H locs) (hlm : lm.size = t.2.2.1) (hd : decode t.2.1 pc = .ok (i, len)) (hl : mm_lk i len = true) (hs : mm_st (d + 1) t pc ls st S i = some (.inr (.inl (y, as, st', S1)))) (hu : mm_mc[y]? = some u) (hM : Met l u.1 (.code u.1 u.2.1 u.2.2.1 u.2.2.2.1 :: mm_G) (mm_rm d mc ms) (va_Pc (as.map (mm_ad aa z)) (mm_Pc D ca z aa S H.size)) Qc mc ms free) (hf : cells + mc ≤ R.cells ∧ slots + ms ≤ R.slots) : va_Run p l e R s m args below meth c H locs cells slots mc ms (F0 m pc lm (st.map (mm_ad aa z))) (st'.map (mm_ad aa z)) (Qc (as.map (mm_ad aa z)).toArray) free := by
  have hok := mm_mc_ok u (List.mem_of_getElem? hu)
  have hzc : z.category = 1 := I.2.2.2.2.1.2.2.2.2.1
  have hpre := mm_preS (as := as) F I
  obtain ⟨hx, hb, hml, hown, hts, hnm, hcn, hK, hA, hdf, hdl⟩ := id F
  have hfix : CallFix p m c t.2.1 t.2.2.1 s args mm_G (mm_cn t.2.2.2.2) := ⟨hx, hb, hml, hown, hts⟩
  have hW : ∀ {r : List Value}, mm_cs r ≤ 8 → 2 * (F0 m pc lm (st.map (mm_ad aa z))).monitorRoom + ((r.map (mm_ad aa z)).map fun v => v.category).sum ≤ 8 := fun {r} h => lv_room (m := m) (pc := pc) (ls := lm) (rest := st.map (mm_ad aa z)) (st := r.map (mm_ad aa z)) (by rw [mm_cs_map hzc]; exact h)
  have hsplit : ∀ n, st.map (mm_ad aa z) = ((st.take n).reverse.map (mm_ad aa z)).reverse ++ (st.drop n).map (mm_ad aa z) := fun n => by
    rw [← List.map_reverse, ← List.map_append, mm_td]
  cases i with
  | invokestatic k =>
    obtain rfl : len = 3 := mm_lk_eq hl rfl (by decide)
    unfold mm_st at hs
    cases hv : mm_fd mm_AC t.2.2.2.2 k with
    | some q =>
      simp only [hv] at hs
      obtain ⟨_, _, _, _, hs⟩ := mm_i2_some hs
      obtain ⟨_, _, _, hs⟩ := mm_r1_some hs
      obtain ⟨_, _, _, hs⟩ := mm_i1_some hs
      obtain ⟨_, _, _, hs⟩ := mm_r1_some hs
      obtain ⟨_, hs⟩ := mm_gd_some hs
      split at hs
      · cases hs
      · split at hs
        · cases hs
        · cases hs
    | none =>
      simp only [hv] at hs
      cases hm : mm_fd mm_MX t.2.2.2.2 k with
      | some q =>
        simp only [hm] at hs
        obtain ⟨_, _, _, _, hs⟩ := mm_i2_some hs
        obtain ⟨_, hs⟩ := mm_gd_some hs
        cases hs
      | none =>
        simp only [hm] at hs
        cases hq : mm_fd mm_ST t.2.2.2.2 k with
        | none => simp only [hq] at hs; cases hs
        | some q =>
          obtain ⟨na, z0⟩ := q
          simp only [hq] at hs
          obtain ⟨hg, hs⟩ := mm_gd_some hs
          rw [Bool.and_eq_true, decide_eq_true_eq, decide_eq_true_eq] at hg
          obtain ⟨rfl, rfl, rfl, rfl⟩ := mm_ca_inv hs
          obtain ⟨t0, x, w1, w2, w3, w4, w5, w6⟩ := mm_ST_ok _ (mm_fd_mem hq)
          simp only at w1 w2 w3 w4 w5
          cases w1.symm.trans hu
          have hn : ((st.take na).reverse.map (mm_ad aa z)).length = na := by simp; omega
          rcases w6 with rfl | ⟨w6, w7⟩
          · exact va_runS hfix hM ⟨mm_cb_of F hok w4 w2 w5, hts _ w3⟩ hpre rfl hn hlm (hsplit na) (hW hg.2) hd hf
          · intro T hT X
            have hBk : Back l R p e below s args u.1 3 8 (PreOf R mc ms (va_Pc ((st.take na).reverse.map (mm_ad aa z)) (mm_Pc D ca z aa S H.size))) (PostOf Qc mc ms free) := mm_back F hok w4 hM
            have hst : (Cond.static ⟨u.1.cls, x.name, x.desc⟩).before args s = true := by rw [← w7]; exact hts _ w3
            rw [w7] at hBk
            obtain ⟨mk, hnamed⟩ := Cond.code_named (hts _ hok.1)
            obtain ⟨methM, cM, hmethM, -, -, -, -, -, -, hsigM⟩ := Cond.code_spec hnamed (hts _ hok.1)
            have hnamed2 : s.methodNamed? ⟨u.1.cls, x.name, x.desc⟩ = some mk := by rw [← w7]; exact hnamed
            have hsig2 : parseMethodDescriptor x.desc = some methM.sig := by
              rw [w7] at hsigM
              exact hsigM
            have hlen : ∀ sig, parseMethodDescriptor x.desc = some sig → ((st.take na).reverse.map (mm_ad aa z)).length = sig.parameters.length := by
              intro sig h
              rw [h] at w5
              rw [hn]
              exact (Option.some.inj w5).symm
            obtain ⟨kP, hkP, -⟩ := className_of_methodNamed hnamed
            have hinitP : kP.init = .initialized := Cond.initialized_spec (findClass_of_methodNamed hnamed) hkP (hts _ w4)
            obtain ⟨vm₁, X₁, hstep₁⟩ := X.invokestaticUp hx hown (hts _ w2) (hts _ w6) hok.2.2.2.2.2 hnamed2 hmethM (Cond.static_spec hnamed2 hmethM hst) hkP hinitP (g := F0 m pc lm (st.map (mm_ad aa z))) rfl (argsL := (st.take na).reverse.map (mm_ad aa z)) (rest := (st.drop na).map (mm_ad aa z)) (hlen _ hsig2) (hsplit na) (by rw [hb]; exact hd)
            obtain ⟨v, ⟨U', l2, c2, s2⟩, X', ⟨g', mk', t', L, e1, e2, hq', h1, hL, h2, h3⟩, hsteps⟩ := hBk m meth c ⟨T.setVm vm₁, locs, cells, slots⟩ { F0 m pc lm (st.map (mm_ad aa z)) with stack := (st.drop na).map (mm_ad aa z) } (.invokestatic k) mk ((st.take na).reverse.map (mm_ad aa z)).toArray X₁ rfl (by rw [hml]; exact hlm) (by rw [hb]; exact hd) (hW hg.2) (X₁.named hnamed2) ⟨hf.1, hf.2, hpre.2 (T.setVm vm₁) hT X₁.warmed⟩
            dsimp only [Pt.U, Pt.locs, Pt.cells, Pt.slots] at X' e1 e2 h1 h2 h3 hsteps
            subst h1; subst h2; subst h3
            exact ⟨v, (T.setVm vm₁).calling g' mk' ((st.take na).reverse.map (mm_ad aa z)).toArray, t', U', L, hT, X', hL, e1, e2, hq', fun target h => hstep₁ _ fun acts => by rw [doInvoke_state]; exact hsteps.trans h⟩
  | invokevirtual k =>
    obtain rfl : len = 3 := mm_lk_eq hl rfl (by decide)
    unfold mm_st at hs
    cases hq : mm_fd mm_VT t.2.2.2.2 k with
    | none => simp only [hq] at hs; cases hs
    | some q =>
      obtain ⟨na, lst⟩ := q
      simp only [hq] at hs
      obtain ⟨hna, hs⟩ := mm_gd_some hs
      have hna := of_decide_eq_true hna
      obtain ⟨a, r, hdr, hs⟩ := mm_r1_some hs
      obtain ⟨hcs, hs⟩ := mm_gd_some hs
      have hcs := of_decide_eq_true hcs
      cases hy : mm_lu lst (mm_rk S a) with
      | none => simp only [hy] at hs; cases hs
      | some w =>
        simp only [hy] at hs
        obtain ⟨rfl, rfl, rfl, rfl⟩ := mm_ca_inv hs
        obtain ⟨t0, x, owner, w1, w2, w3, w4, w5, w6, w7, w8, w9⟩ := mm_VT_ok _ (mm_fd_mem hq) _ (mm_lu_mem hy)
        simp only at w1 w2 w3 w4 w5 w6 w8
        cases w1.symm.trans hu
        have hrc := mm_rcv F I rfl w8
        have hn : ((st.take na).reverse.map (mm_ad aa z)).length = na := by simp; omega
        have hstk : st.map (mm_ad aa z) = ((st.take na).reverse.map (mm_ad aa z)).reverse ++ .ref (aa a) :: r.map (mm_ad aa z) := by
          rw [hsplit na, hdr, List.map_cons, mm_ad_ref]
        have has : (Value.ref a :: (st.take na).reverse).map (mm_ad aa z) = .ref (aa a) :: (st.take na).reverse.map (mm_ad aa z) := by rw [List.map_cons, mm_ad_ref]
        rw [has] at hM hpre ⊢
        have hpv : PreV s H (mm_ck (mm_rk S a)) (aa a) (va_Pc (.ref (aa a) :: (st.take na).reverse.map (mm_ad aa z)) (mm_Pc D ca z aa S H.size)) ((st.take na).reverse.map (mm_ad aa z)) := ⟨hpre.1, hrc, hpre.2⟩
        rcases w9 with rfl | ⟨w9, z0, b0, m0, r0, w10, w11, w12⟩
        · exact va_runV hfix hM ⟨mm_cb_of F hok w3 w2 w6, hts _ w4, hts _ w5⟩ hpv rfl hn hlm hstk (hW hcs) hd hf
        · have hlen : ∀ sig, parseMethodDescriptor x.desc = some sig → na = sig.parameters.length := by
            intro sig h
            rw [h] at w6
            exact (Option.some.inj w6).symm
          have hg : ∀ w ∈ (Cond.code u.1 u.2.1 u.2.2.1 u.2.2.2.1 :: mm_G), w ∈ mm_G := by
            intro w hw
            rcases List.mem_cons.mp hw with rfl | hw
            · exact hok.1
            · exact hw
          have hroom := hok.2.2.1
          refine va_runU (owner := owner) hfix hM ⟨⟨rfl, rfl, by show d + 1 ≤ R.frames; exact hdf, by show 8 + (u.2.2.1 + 11) + 60 * d ≤ R.locals; omega, pay_in hts (mm_Ggood hg), List.mem_cons_self⟩, hts _ hok.1, hts _ w3, w7, hlen, hts _ w2, hts _ w9, ?_, hts _ w5, hts _ w4⟩ hpv rfl hn hlm hstk (hW hcs) hd hf
          rw [← w10]
          exact va_Decl.of (hts _ w11) (hts _ w12)
  | invokespecial k =>
    obtain rfl : len = 3 := mm_lk_eq hl rfl (by decide)
    unfold mm_st at hs
    cases hv : mm_fd mm_OI t.2.2.2.2 k with
    | some q =>
      simp only [hv] at hs
      obtain ⟨_, _, _, hs⟩ := mm_r1_some hs
      obtain ⟨_, hs⟩ := mm_gd_some hs
      cases hs
    | none =>
      simp only [hv] at hs
      cases hq : mm_fd mm_SP t.2.2.2.2 k with
      | none => simp only [hq] at hs; cases hs
      | some q =>
        obtain ⟨na, z0, srt⟩ := q
        simp only [hq] at hs
        obtain ⟨hna, hs⟩ := mm_gd_some hs
        have hna := of_decide_eq_true hna
        obtain ⟨a, r, hdr, hs⟩ := mm_r1_some hs
        obtain ⟨hcs, hs⟩ := mm_gd_some hs
        simp only [Bool.and_eq_true, decide_eq_true_eq] at hcs
        obtain ⟨⟨hcs, han⟩, h13⟩ := hcs
        obtain ⟨rfl, rfl, rfl, rfl⟩ := mm_ca_inv hs
        obtain ⟨t0, x, w1, w2, w3, w4, w5⟩ := mm_SP_ok _ (mm_fd_mem hq)
        simp only at w1 w2 w3 w4 w5
        cases w1.symm.trans hu
        have hn : ((st.take na).reverse.map (mm_ad aa z)).length = na := by simp; omega
        have hstk : st.map (mm_ad aa z) = ((st.take na).reverse.map (mm_ad aa z)).reverse ++ .ref (aa a) :: r.map (mm_ad aa z) := by
          rw [hsplit na, hdr, List.map_cons, mm_ad_ref]
        have has : (Value.ref a :: (st.take na).reverse).map (mm_ad aa z) = .ref (aa a) :: (st.take na).reverse.map (mm_ad aa z) := by rw [List.map_cons, mm_ad_ref]
        have hM0 := hM
        rw [has] at hM hpre ⊢
        have hroom := hok.2.2.1
        have hg : ∀ w ∈ (Cond.code u.1 u.2.1 u.2.2.1 u.2.2.2.1 :: mm_G), w ∈ mm_G := by
          intro w hw
          rcases List.mem_cons.mp hw with rfl | hw
          · exact hok.1
          · exact hw
        rcases w5 with ⟨-, g1, g2, rfl, g3⟩ | ⟨-, g1, g2, g3, g4, g5, g6⟩ | ⟨-, g1, g2, rfl, host, g3⟩
        · have hcb := mm_cb_of (mc := mc) (ms := ms) F hok w3 g3 w4
          rw [g2] at hM hcb
          exact va_runI hfix hM ⟨hcb, g1, hts _ w2⟩ hpre rfl hn hlm hstk (hW hcs) hd hf
        · intro T hT X
          have hBk : Back l R p e below s args u.1 3 8 (PreOf R mc ms (va_Pc ((Value.ref a :: (st.take na).reverse).map (mm_ad aa z)) (mm_Pc D ca z aa S H.size))) (PostOf Qc mc ms free) := mm_back F hok w3 hM0
          rw [has] at hBk
          have hcell := mm_ws_get (ca := ca) (aa := aa) han
          rw [mm_ce1_obj h13] at hcell
          obtain ⟨cellB, hcB, hoB, hclB⟩ := va_recv hK I.1 (mm_cls_get _ h13) hcell
          obtain ⟨hfc, kB, hkB, -⟩ := (hK.1 (mm_K S a) _ (mm_cls_get _ h13)).2
          have hcc := Option.some.inj (hfc.symm.trans hclB)
          rw [hcc] at hkB
          have hlen : ∀ sig, parseMethodDescriptor x.desc = some sig → ((st.take na).reverse.map (mm_ad aa z)).length = sig.parameters.length := by
            intro sig h
            rw [h] at w4
            rw [hn]
            exact (Option.some.inj w4).symm
          obtain ⟨v, vm₁, ⟨U', l2, c2, s2⟩, hW₁, X', ⟨g', mk, t', L, e1, e2, hq', h1, hL, h2, h3⟩, hst⟩ := mm_callSU X hx hown (hts _ g3) (hts _ g4) (hts _ g5) (g6.imp id (hts _)) g2 (hts _ w2) (hts _ hok.1) g1 hBk (by rw [hT]; exact hcB) hoB hkB (g := F0 m pc lm (st.map (mm_ad aa z))) rfl (by rw [hml]; exact hlm) (argsL := (st.take na).reverse.map (mm_ad aa z)) (rest := r.map (mm_ad aa z)) hlen hstk (hW hcs) (by rw [hb]; exact hd) (fun vm₁ hW₁ => ⟨hf.1, hf.2, hpre.2 (T.setVm vm₁) hT hW₁⟩)
          dsimp only [Pt.U, Pt.locs, Pt.cells, Pt.slots] at X' e1 e2 h1 h2 h3 hst
          subst h1; subst h2; subst h3
          exact ⟨v, (T.setVm vm₁).calling g' mk (.ref (aa a) :: (st.take na).reverse.map (mm_ad aa z)).toArray, t', U', L, hT, X', hL, e1, e2, hq', hst⟩
        · have hl3 := I.2.2.2.2.1.2.2.2.2.2.2.2.2 _ g3
          have hlen : (parseMethodDescriptor u.1.desc).map (fun d => d.parameters.length) = some na := w4
          have hcb := va_cnB (R := R) (own := mm_cn t.2.2.2.2) (host := host) (index := k) (bytes := u.2.1) (maxL := u.2.2.1) (ret := u.2.2.2.1) (rm := mm_rm d mc ms) (mc := mc) (ms := ms) na hts (mm_Ggood hg) rfl rfl rfl hl3 (hts _ w3) ⟨hok.2.2.2.2.2.1, hok.2.2.2.2.2.2, hlen⟩ ⟨by show d + 1 ≤ R.frames; exact hdf, by show 8 + (u.2.2.1 + 11) + 60 * d ≤ R.locals; omega⟩
          rw [g2] at hM hcb
          exact va_runIN hfix hM ⟨hcb, g1, hts _ w2⟩ hpre rfl hn hlm hstk (hW hcs) hd hf
  | _ => cases hi
end MMD
theorem mm_frame : ∀ f, mm_Fm f := by
  intro f
  induction f with
  | zero => intro p l e R s m args below meth c Q D ca z A t XS d y pc ls st S v S' aa H locs lm cells slots ht h; cases h
  | succ f ih =>
    intro p l e R s m args below meth c Q D ca z A t XS d y pc ls st S v S' aa H locs lm cells slots ht h F I X hc hz hret
    have h0 := h
    unfold mm_run at h
    simp only [ht] at h
    cases hd : decode t.2.1 pc with
    | error x => rw [hd] at h; cases h
    | ok il =>
      obtain ⟨i, len⟩ := il
      simp only [hd] at h
      by_cases hl : (mm_lk i len && mm_mo i S (mm_st d t pc ls st S i)) = true
      · simp only [if_pos hl] at h
        rw [Bool.and_eq_true] at hl
        obtain ⟨hl, hm⟩ := hl
        cases ha : mm_st d t pc ls st S i with
        | none => rw [ha] at h; cases h
        | some B =>
          rw [ha] at hm
          rcases B with q | q | q
          · simp only [ha] at h
            obtain ⟨pc1, ls1, st1, S1⟩ := q
            simp only [mm_mo, Bool.and_eq_true, decide_eq_true_eq] at hm
            have hmono := mm_run_mono _ _ _ _ _ _ _ _ _ h
            simp only at hmono hm h
            refine mm_ok_all i p l e R s m args below meth c Q D ca z A t XS d pc len ls st S pc1 ls1 st1 S1 aa H locs lm cells slots F I X hd hl ha (by omega) (by omega) ?_
            intro aa1 H1 locs1 lm1 cells1 slots1 g1 g2 g3 I1 X1
            refine ih p l e R s m args below meth c Q D ca z A t XS d y pc1 ls1 st1 S1 v S' aa1 H1 locs1 lm1 cells1 slots1 ht h F I1 X1 (by omega) (by omega) ?_
            intro pc2 aa2 H2 locs2 lm2 cells2 slots2 k1 k2 k3 k4 k5 k6
            exact hret pc2 aa2 H2 locs2 lm2 cells2 slots2 (by omega) (by omega) (fun j hj => (k3 j (by omega)).trans (g3 j hj)) k4 k5 k6
          · simp only [ha] at h
            obtain ⟨y1, as, st1, S1⟩ := q
            simp only [mm_mo, Bool.and_eq_true, decide_eq_true_eq] at hm
            cases d with
            | zero => cases h
            | succ d =>
              simp only at h
              by_cases hq : y1 < mm_nc
              · simp only [if_pos hq] at h
                cases hu : mm_mt[y1]? with
                | none => rw [hu] at h; cases h
                | some u =>
                  simp only [hu] at h
                  by_cases hf : (mm_as as).length ≤ u.2.2.1
                  · simp only [if_pos hf] at h
                    cases hr : mm_run f d y1 0 (mm_en u.2.2.1 as) [] S1 with
                    | none => rw [hr] at h; cases h
                    | some w =>
                      rw [hr] at h
                      obtain ⟨v1, S2⟩ := w
                      simp only at h
                      have hu2 : mm_mc[y1]? = some u := by
                        have e1 : mm_mt[y1]? = mm_mc[y1]? := by
                          unfold mm_mt
                          rw [List.getElem?_append_left (by rw [mm_mc_len]; exact hq)]
                        rw [← e1]; exact hu
                      obtain ⟨rfl, hvk⟩ := mm_ca_sp hm.2 ha
                      obtain ⟨hv1, hv2⟩ := hvk X.2.1
                      have hmono1 := mm_run_mono _ _ _ _ _ _ _ _ _ hr
                      have hmono2 := mm_run_mono _ _ _ _ _ _ _ _ _ h
                      have hM := mm_met ih hu2 hf hr l D ca z aa XS H.size I.2.2.2.1 hv1 I.2.2.2.2.2.1 I.2.2.2.2.2.2.1
                      have hrun := mm_ca_run (e := e) (below := below) (cells := cells) (slots := slots) hm.2 F I (mm_lmsz X.2.2) hd hl ha hu2 hM ⟨by omega, by omega⟩
                      refine mm_callg hrun I.2.2.1 (mm_free I.2.1 I.2.2.1 F.2.2.2.2.2.2.2.2.1) ?_
                      intro aa1 H1 locs1 g1 g2 g3 g4 g5 g6 g7 g8
                      have hvS : ∀ w, mm_vok S w → mm_vok S2 w := by
                        intro w hw
                        cases w <;> try exact trivial
                        rcases hw with hw | hw
                        · exact Or.inl (Nat.lt_of_lt_of_le hw hmono1.1)
                        · exact Or.inr hw
                      have I1 : mm_Ix s D ca z A t XS aa1 S2 H1 locs1 := ⟨g2, g3, g8, g4, mm_Ev_aa (fun j hj => g1 j (Or.inr hj)) I.2.2.2.2.1, g5, g6, fun hh => by
                        rw [g1 mm_SC (Or.inr (by decide))]
                        exact I.2.2.2.2.2.2.2 hh⟩
                      have X1 : mm_Sx aa1 z S2 t ls lm (v1.toList ++ st1) := ⟨fun w hw => hvS w (X.1 w hw), fun w hw => by
                        rcases List.mem_append.mp hw with hw | hw
                        · exact g7 w hw
                        · exact hvS w (hv2 w hw), mm_Lr_aa X.2.2 X.1 g1⟩
                      have K1 := ih p l e R s m args below meth c Q D ca z A t XS (d + 1) y (pc + 3) ls (v1.toList ++ st1) S2 v S' aa1 H1 locs1 lm (cells + (mm_n S2 - mm_n S)) (slots + (mm_z S2 - mm_z S)) ht h F I1 X1 (by omega) (by omega) (fun pc2 aa2 H2 locs2 lm2 cells2 slots2 k1 k2 k3 k4 k5 k6 => hret pc2 aa2 H2 locs2 lm2 cells2 slots2 (by omega) (by omega) (fun j hj => (k3 j (by omega)).trans (g1 j hj)) k4 k5 k6)
                      rw [List.map_append, mm_map_aa hv2 g1] at K1
                      exact K1
                  · rw [if_neg hf] at h; cases h
              · rw [if_neg hq] at h; cases h
          · simp only [ha] at h
            cases h
            simp only [mm_mo, Bool.and_eq_true, decide_eq_true_eq] at hm
            obtain ⟨-, hi⟩ := hm
            cases i with
            | ireturn =>
              obtain rfl : len = 1 := mm_lk_eq hl rfl (by decide)
              have ha : mm_ire st t.2.2.2.1 S = some _ := ha
              obtain ⟨x, ty, rfl, h2, h3, h4, h5⟩ := mm_ire_inv ha
              cases h5
              exact hret pc aa H locs lm cells slots rfl rfl (fun _ _ => rfl) ⟨hd, ty, h2, h3⟩ I (fun w hw => X.2.1 w hw)
            | lreturn =>
              obtain rfl : len = 1 := mm_lk_eq hl rfl (by decide)
              have ha : mm_lre st t.2.2.2.1 S = some _ := ha
              obtain ⟨x, rfl, h2, h5⟩ := mm_lre_inv ha
              cases h5
              exact hret pc aa H locs lm cells slots rfl rfl (fun _ _ => rfl) ⟨hd, h2⟩ I (fun w hw => X.2.1 w hw)
            | areturn =>
              obtain rfl : len = 1 := mm_lk_eq hl rfl (by decide)
              have ha : mm_are st t.2.2.2.1 S = some _ := ha
              obtain ⟨a, n, rfl, h2, h5⟩ := mm_are_inv ha
              cases h5
              exact hret pc aa H locs lm cells slots rfl rfl (fun _ _ => rfl) ⟨hd, n, h2⟩ I (fun w hw => X.2.1 w hw)
            | return_ =>
              obtain rfl : len = 1 := mm_lk_eq hl rfl (by decide)
              have ha : mm_vre st t.2.2.2.1 S = some _ := ha
              obtain ⟨rfl, h2, h5⟩ := mm_vre_inv ha
              cases h5
              exact hret pc aa H locs lm cells slots rfl rfl (fun _ _ => rfl) ⟨hd, h2⟩ I (fun w hw => X.2.1 w hw)
            | _ => cases hi
      · rw [if_neg hl] at h; cases h
end
section
/-! ===== the start: what the Statement gives ===== -/
def mm_nl_0 : List Cond := [(Jvm.Cond.arrayOf (Jvm.Term.arg (0 : Nat)) Jvm.ClassFile.FieldType.int), (Jvm.Cond.le (Jvm.Term.length (Jvm.Term.arg (0 : Nat))) (Jvm.Term.int (3072 : Int32))), (Jvm.Cond.eq (Jvm.Term.static "java/lang/String" "COMPACT_STRINGS" "Z") (Jvm.Term.int (1 : Int32))), (Jvm.Cond.isRef (Jvm.Term.static "jdk/internal/util/Preconditions" "SIOOBE_FORMATTER" "Ljava/util/function/BiFunction;")), (Jvm.Cond.eq (Jvm.Term.static "java/lang/StringUTF16" "$assertionsDisabled" "Z") (Jvm.Term.int (1 : Int32))), (Jvm.Cond.eq (Jvm.Term.static "java/lang/StringUTF16" "HI_BYTE_SHIFT" "I") (Jvm.Term.int (0 : Int32))), (Jvm.Cond.eq (Jvm.Term.static "java/lang/StringUTF16" "LO_BYTE_SHIFT" "I") (Jvm.Term.int (8 : Int32))), (Jvm.Cond.not (Jvm.Cond.castable "PennyMore" "PennyMore$Plain")), (Jvm.Cond.not (Jvm.Cond.castable "PennyMore$Shop" "PennyMore$Plain")), (Jvm.Cond.not (Jvm.Cond.castable "PennyMore$Day" "PennyMore$Plain")), (Jvm.Cond.not (Jvm.Cond.castable "PennyMore$Reader" "PennyMore$Plain")), (Jvm.Cond.not (Jvm.Cond.castable "PennyMore$Tape" "PennyMore$Plain")), (Jvm.Cond.not (Jvm.Cond.castable "PennyMoreModel" "PennyMore$Plain")), (Jvm.Cond.not (Jvm.Cond.castable "PennyMore$Waiting" "PennyMore$Plain")), (Jvm.Cond.not (Jvm.Cond.castable "PennyMore$Falling" "PennyMore$Plain")), (Jvm.Cond.not (Jvm.Cond.castable "PennyMore$Late" "PennyMore$Plain")), (Jvm.Cond.not (Jvm.Cond.castable "PennyMore$Told" "PennyMore$Plain")), (Jvm.Cond.not (Jvm.Cond.castable "PennyMore$Buyer" "PennyMore$Plain")), (Jvm.Cond.not (Jvm.Cond.castable "PennyMore" "PennyMore$Waiting")), (Jvm.Cond.not (Jvm.Cond.castable "PennyMore$Shop" "PennyMore$Waiting")), (Jvm.Cond.not (Jvm.Cond.castable "PennyMore$Day" "PennyMore$Waiting")), (Jvm.Cond.not (Jvm.Cond.castable "PennyMore$Reader" "PennyMore$Waiting")), (Jvm.Cond.not (Jvm.Cond.castable "PennyMore$Tape" "PennyMore$Waiting")), (Jvm.Cond.not (Jvm.Cond.castable "PennyMoreModel" "PennyMore$Waiting")), (Jvm.Cond.not (Jvm.Cond.castable "PennyMore$Plain" "PennyMore$Waiting")), (Jvm.Cond.not (Jvm.Cond.castable "PennyMore$Falling" "PennyMore$Waiting")), (Jvm.Cond.not (Jvm.Cond.castable "PennyMore$Sure" "PennyMore$Waiting")), (Jvm.Cond.not (Jvm.Cond.castable "PennyMore$Told" "PennyMore$Waiting")), (Jvm.Cond.not (Jvm.Cond.castable "PennyMore$Buyer" "PennyMore$Waiting")), (Jvm.Cond.not (Jvm.Cond.castable "PennyMore" "PennyMore$Falling")), (Jvm.Cond.not (Jvm.Cond.castable "PennyMore$Shop" "PennyMore$Falling")), (Jvm.Cond.not (Jvm.Cond.castable "PennyMore$Day" "PennyMore$Falling")), (Jvm.Cond.not (Jvm.Cond.castable "PennyMore$Reader" "PennyMore$Falling")), (Jvm.Cond.not (Jvm.Cond.castable "PennyMore$Tape" "PennyMore$Falling")), (Jvm.Cond.not (Jvm.Cond.castable "PennyMoreModel" "PennyMore$Falling")), (Jvm.Cond.not (Jvm.Cond.castable "PennyMore$Plain" "PennyMore$Falling")), (Jvm.Cond.not (Jvm.Cond.castable "PennyMore$Waiting" "PennyMore$Falling")), (Jvm.Cond.not (Jvm.Cond.castable "PennyMore$Sure" "PennyMore$Falling")), (Jvm.Cond.not (Jvm.Cond.castable "PennyMore$Late" "PennyMore$Falling")), (Jvm.Cond.not (Jvm.Cond.castable "PennyMore$Buyer" "PennyMore$Falling")), (Jvm.Cond.not (Jvm.Cond.castable "PennyMore" "PennyMore$Sure")), (Jvm.Cond.not (Jvm.Cond.castable "PennyMore$Shop" "PennyMore$Sure")), (Jvm.Cond.not (Jvm.Cond.castable "PennyMore$Day" "PennyMore$Sure")), (Jvm.Cond.not (Jvm.Cond.castable "PennyMore$Reader" "PennyMore$Sure")), (Jvm.Cond.not (Jvm.Cond.castable "PennyMore$Tape" "PennyMore$Sure")), (Jvm.Cond.not (Jvm.Cond.castable "PennyMoreModel" "PennyMore$Sure")), (Jvm.Cond.not (Jvm.Cond.castable "PennyMore$Plain" "PennyMore$Sure")), (Jvm.Cond.not (Jvm.Cond.castable "PennyMore$Waiting" "PennyMore$Sure")), (Jvm.Cond.not (Jvm.Cond.castable "PennyMore$Falling" "PennyMore$Sure")), (Jvm.Cond.not (Jvm.Cond.castable "PennyMore$Late" "PennyMore$Sure")), (Jvm.Cond.not (Jvm.Cond.castable "PennyMore$Told" "PennyMore$Sure")), (Jvm.Cond.not (Jvm.Cond.castable "PennyMore$Buyer" "PennyMore$Sure")), (Jvm.Cond.not (Jvm.Cond.castable "PennyMore" "PennyMore$Late")), (Jvm.Cond.not (Jvm.Cond.castable "PennyMore$Shop" "PennyMore$Late")), (Jvm.Cond.not (Jvm.Cond.castable "PennyMore$Day" "PennyMore$Late")), (Jvm.Cond.not (Jvm.Cond.castable "PennyMore$Reader" "PennyMore$Late")), (Jvm.Cond.not (Jvm.Cond.castable "PennyMore$Tape" "PennyMore$Late")), (Jvm.Cond.not (Jvm.Cond.castable "PennyMoreModel" "PennyMore$Late")), (Jvm.Cond.not (Jvm.Cond.castable "PennyMore$Plain" "PennyMore$Late")), (Jvm.Cond.not (Jvm.Cond.castable "PennyMore$Waiting" "PennyMore$Late"))]
def mm_nl_1 : List Cond := [(Jvm.Cond.not (Jvm.Cond.castable "PennyMore$Falling" "PennyMore$Late")), (Jvm.Cond.not (Jvm.Cond.castable "PennyMore$Sure" "PennyMore$Late")), (Jvm.Cond.not (Jvm.Cond.castable "PennyMore$Told" "PennyMore$Late")), (Jvm.Cond.not (Jvm.Cond.castable "PennyMore$Buyer" "PennyMore$Late")), (Jvm.Cond.not (Jvm.Cond.castable "PennyMore" "PennyMore$Told")), (Jvm.Cond.not (Jvm.Cond.castable "PennyMore$Shop" "PennyMore$Told")), (Jvm.Cond.not (Jvm.Cond.castable "PennyMore$Day" "PennyMore$Told")), (Jvm.Cond.not (Jvm.Cond.castable "PennyMore$Reader" "PennyMore$Told")), (Jvm.Cond.not (Jvm.Cond.castable "PennyMore$Tape" "PennyMore$Told")), (Jvm.Cond.not (Jvm.Cond.castable "PennyMoreModel" "PennyMore$Told")), (Jvm.Cond.not (Jvm.Cond.castable "PennyMore$Plain" "PennyMore$Told")), (Jvm.Cond.not (Jvm.Cond.castable "PennyMore$Waiting" "PennyMore$Told")), (Jvm.Cond.not (Jvm.Cond.castable "PennyMore$Falling" "PennyMore$Told")), (Jvm.Cond.not (Jvm.Cond.castable "PennyMore$Sure" "PennyMore$Told")), (Jvm.Cond.not (Jvm.Cond.castable "PennyMore$Late" "PennyMore$Told")), (Jvm.Cond.not (Jvm.Cond.castable "PennyMore$Buyer" "PennyMore$Told")), (Jvm.Cond.not (Jvm.Cond.castable "java/lang/String" "PennyMore$Plain")), (Jvm.Cond.not (Jvm.Cond.castable "[I" "PennyMore$Plain")), (Jvm.Cond.not (Jvm.Cond.castable "[LPennyMore$Buyer;" "PennyMore$Plain")), (Jvm.Cond.not (Jvm.Cond.castable "[LPennyMore$Shop;" "PennyMore$Plain")), (Jvm.Cond.not (Jvm.Cond.castable "[LPennyMore$Tape;" "PennyMore$Plain")), (Jvm.Cond.not (Jvm.Cond.castable "[J" "PennyMore$Plain")), (Jvm.Cond.not (Jvm.Cond.castable "[B" "PennyMore$Plain")), (Jvm.Cond.not (Jvm.Cond.castable "[Z" "PennyMore$Plain")), (Jvm.Cond.not (Jvm.Cond.castable "java/lang/String" "PennyMore$Waiting")), (Jvm.Cond.not (Jvm.Cond.castable "[I" "PennyMore$Waiting")), (Jvm.Cond.not (Jvm.Cond.castable "[LPennyMore$Buyer;" "PennyMore$Waiting")), (Jvm.Cond.not (Jvm.Cond.castable "[LPennyMore$Shop;" "PennyMore$Waiting")), (Jvm.Cond.not (Jvm.Cond.castable "[LPennyMore$Tape;" "PennyMore$Waiting")), (Jvm.Cond.not (Jvm.Cond.castable "[J" "PennyMore$Waiting")), (Jvm.Cond.not (Jvm.Cond.castable "[B" "PennyMore$Waiting")), (Jvm.Cond.not (Jvm.Cond.castable "[Z" "PennyMore$Waiting")), (Jvm.Cond.not (Jvm.Cond.castable "java/lang/String" "PennyMore$Falling")), (Jvm.Cond.not (Jvm.Cond.castable "[I" "PennyMore$Falling")), (Jvm.Cond.not (Jvm.Cond.castable "[LPennyMore$Buyer;" "PennyMore$Falling")), (Jvm.Cond.not (Jvm.Cond.castable "[LPennyMore$Shop;" "PennyMore$Falling")), (Jvm.Cond.not (Jvm.Cond.castable "[LPennyMore$Tape;" "PennyMore$Falling")), (Jvm.Cond.not (Jvm.Cond.castable "[J" "PennyMore$Falling")), (Jvm.Cond.not (Jvm.Cond.castable "[B" "PennyMore$Falling")), (Jvm.Cond.not (Jvm.Cond.castable "[Z" "PennyMore$Falling")), (Jvm.Cond.not (Jvm.Cond.castable "java/lang/String" "PennyMore$Sure")), (Jvm.Cond.not (Jvm.Cond.castable "[I" "PennyMore$Sure")), (Jvm.Cond.not (Jvm.Cond.castable "[LPennyMore$Buyer;" "PennyMore$Sure")), (Jvm.Cond.not (Jvm.Cond.castable "[LPennyMore$Shop;" "PennyMore$Sure")), (Jvm.Cond.not (Jvm.Cond.castable "[LPennyMore$Tape;" "PennyMore$Sure")), (Jvm.Cond.not (Jvm.Cond.castable "[J" "PennyMore$Sure")), (Jvm.Cond.not (Jvm.Cond.castable "[B" "PennyMore$Sure")), (Jvm.Cond.not (Jvm.Cond.castable "[Z" "PennyMore$Sure")), (Jvm.Cond.not (Jvm.Cond.castable "java/lang/String" "PennyMore$Late")), (Jvm.Cond.not (Jvm.Cond.castable "[I" "PennyMore$Late")), (Jvm.Cond.not (Jvm.Cond.castable "[LPennyMore$Buyer;" "PennyMore$Late")), (Jvm.Cond.not (Jvm.Cond.castable "[LPennyMore$Shop;" "PennyMore$Late")), (Jvm.Cond.not (Jvm.Cond.castable "[LPennyMore$Tape;" "PennyMore$Late")), (Jvm.Cond.not (Jvm.Cond.castable "[J" "PennyMore$Late")), (Jvm.Cond.not (Jvm.Cond.castable "[B" "PennyMore$Late")), (Jvm.Cond.not (Jvm.Cond.castable "[Z" "PennyMore$Late")), (Jvm.Cond.not (Jvm.Cond.castable "java/lang/String" "PennyMore$Told")), (Jvm.Cond.not (Jvm.Cond.castable "[I" "PennyMore$Told")), (Jvm.Cond.not (Jvm.Cond.castable "[LPennyMore$Buyer;" "PennyMore$Told")), (Jvm.Cond.not (Jvm.Cond.castable "[LPennyMore$Shop;" "PennyMore$Told"))]
def mm_nl_2 : List Cond := [(Jvm.Cond.not (Jvm.Cond.castable "[LPennyMore$Tape;" "PennyMore$Told")), (Jvm.Cond.not (Jvm.Cond.castable "[J" "PennyMore$Told")), (Jvm.Cond.not (Jvm.Cond.castable "[B" "PennyMore$Told")), (Jvm.Cond.not (Jvm.Cond.castable "[Z" "PennyMore$Told")), (Jvm.Cond.not (Jvm.Cond.castable "PennyMore" "PennyMore$Buyer")), (Jvm.Cond.not (Jvm.Cond.castable "PennyMore$Shop" "PennyMore$Buyer")), (Jvm.Cond.not (Jvm.Cond.castable "PennyMore$Day" "PennyMore$Buyer")), (Jvm.Cond.not (Jvm.Cond.castable "PennyMore$Reader" "PennyMore$Buyer")), (Jvm.Cond.not (Jvm.Cond.castable "PennyMore$Tape" "PennyMore$Buyer")), (Jvm.Cond.not (Jvm.Cond.castable "PennyMoreModel" "PennyMore$Buyer")), (Jvm.Cond.not (Jvm.Cond.castable "java/lang/String" "PennyMore$Buyer")), (Jvm.Cond.not (Jvm.Cond.castable "PennyMore" "PennyMore$Shop")), (Jvm.Cond.not (Jvm.Cond.castable "PennyMore$Day" "PennyMore$Shop")), (Jvm.Cond.not (Jvm.Cond.castable "PennyMore$Reader" "PennyMore$Shop")), (Jvm.Cond.not (Jvm.Cond.castable "PennyMore$Tape" "PennyMore$Shop")), (Jvm.Cond.not (Jvm.Cond.castable "PennyMoreModel" "PennyMore$Shop")), (Jvm.Cond.not (Jvm.Cond.castable "PennyMore$Plain" "PennyMore$Shop")), (Jvm.Cond.not (Jvm.Cond.castable "PennyMore$Waiting" "PennyMore$Shop")), (Jvm.Cond.not (Jvm.Cond.castable "PennyMore$Falling" "PennyMore$Shop")), (Jvm.Cond.not (Jvm.Cond.castable "PennyMore$Sure" "PennyMore$Shop")), (Jvm.Cond.not (Jvm.Cond.castable "PennyMore$Late" "PennyMore$Shop")), (Jvm.Cond.not (Jvm.Cond.castable "PennyMore$Told" "PennyMore$Shop")), (Jvm.Cond.not (Jvm.Cond.castable "PennyMore$Buyer" "PennyMore$Shop")), (Jvm.Cond.not (Jvm.Cond.castable "java/lang/String" "PennyMore$Shop")), (Jvm.Cond.not (Jvm.Cond.castable "PennyMore" "PennyMore$Tape")), (Jvm.Cond.not (Jvm.Cond.castable "PennyMore$Shop" "PennyMore$Tape")), (Jvm.Cond.not (Jvm.Cond.castable "PennyMore$Day" "PennyMore$Tape")), (Jvm.Cond.not (Jvm.Cond.castable "PennyMore$Reader" "PennyMore$Tape")), (Jvm.Cond.not (Jvm.Cond.castable "PennyMoreModel" "PennyMore$Tape")), (Jvm.Cond.not (Jvm.Cond.castable "PennyMore$Plain" "PennyMore$Tape")), (Jvm.Cond.not (Jvm.Cond.castable "PennyMore$Waiting" "PennyMore$Tape")), (Jvm.Cond.not (Jvm.Cond.castable "PennyMore$Falling" "PennyMore$Tape")), (Jvm.Cond.not (Jvm.Cond.castable "PennyMore$Sure" "PennyMore$Tape")), (Jvm.Cond.not (Jvm.Cond.castable "PennyMore$Late" "PennyMore$Tape")), (Jvm.Cond.not (Jvm.Cond.castable "PennyMore$Told" "PennyMore$Tape")), (Jvm.Cond.not (Jvm.Cond.castable "PennyMore$Buyer" "PennyMore$Tape")), (Jvm.Cond.not (Jvm.Cond.castable "java/lang/String" "PennyMore$Tape")), (Jvm.Cond.exactly (Jvm.Term.string "PennyMore$Reader" (52 : Nat)) "java/lang/String"), (Jvm.Cond.eq (Jvm.Term.field (Jvm.Term.string "PennyMore$Reader" (52 : Nat)) "java/lang/String" "coder" "B") (Jvm.Term.int (0 : Int32))), (Jvm.Cond.arrayOf (Jvm.Term.field (Jvm.Term.string "PennyMore$Reader" (52 : Nat)) "java/lang/String" "value" "[B") Jvm.ClassFile.FieldType.byte), (Jvm.Cond.eq (Jvm.Term.length (Jvm.Term.field (Jvm.Term.string "PennyMore$Reader" (52 : Nat)) "java/lang/String" "value" "[B")) (Jvm.Term.int (5 : Int32))), (Jvm.Cond.eq (Jvm.Term.elem (Jvm.Term.field (Jvm.Term.string "PennyMore$Reader" (52 : Nat)) "java/lang/String" "value" "[B") (Jvm.Term.int (0 : Int32))) (Jvm.Term.int (109 : Int32))), (Jvm.Cond.eq (Jvm.Term.elem (Jvm.Term.field (Jvm.Term.string "PennyMore$Reader" (52 : Nat)) "java/lang/String" "value" "[B") (Jvm.Term.int (1 : Int32))) (Jvm.Term.int (111 : Int32))), (Jvm.Cond.eq (Jvm.Term.elem (Jvm.Term.field (Jvm.Term.string "PennyMore$Reader" (52 : Nat)) "java/lang/String" "value" "[B") (Jvm.Term.int (2 : Int32))) (Jvm.Term.int (114 : Int32))), (Jvm.Cond.eq (Jvm.Term.elem (Jvm.Term.field (Jvm.Term.string "PennyMore$Reader" (52 : Nat)) "java/lang/String" "value" "[B") (Jvm.Term.int (3 : Int32))) (Jvm.Term.int (101 : Int32))), (Jvm.Cond.eq (Jvm.Term.elem (Jvm.Term.field (Jvm.Term.string "PennyMore$Reader" (52 : Nat)) "java/lang/String" "value" "[B") (Jvm.Term.int (4 : Int32))) (Jvm.Term.int (32 : Int32))), (Jvm.Cond.exactly (Jvm.Term.string "PennyMore$Reader" (54 : Nat)) "java/lang/String"), (Jvm.Cond.eq (Jvm.Term.field (Jvm.Term.string "PennyMore$Reader" (54 : Nat)) "java/lang/String" "coder" "B") (Jvm.Term.int (0 : Int32))), (Jvm.Cond.arrayOf (Jvm.Term.field (Jvm.Term.string "PennyMore$Reader" (54 : Nat)) "java/lang/String" "value" "[B") Jvm.ClassFile.FieldType.byte), (Jvm.Cond.eq (Jvm.Term.length (Jvm.Term.field (Jvm.Term.string "PennyMore$Reader" (54 : Nat)) "java/lang/String" "value" "[B")) (Jvm.Term.int (5 : Int32))), (Jvm.Cond.eq (Jvm.Term.elem (Jvm.Term.field (Jvm.Term.string "PennyMore$Reader" (54 : Nat)) "java/lang/String" "value" "[B") (Jvm.Term.int (0 : Int32))) (Jvm.Term.int (99 : Int32))), (Jvm.Cond.eq (Jvm.Term.elem (Jvm.Term.field (Jvm.Term.string "PennyMore$Reader" (54 : Nat)) "java/lang/String" "value" "[B") (Jvm.Term.int (1 : Int32))) (Jvm.Term.int (111 : Int32))), (Jvm.Cond.eq (Jvm.Term.elem (Jvm.Term.field (Jvm.Term.string "PennyMore$Reader" (54 : Nat)) "java/lang/String" "value" "[B") (Jvm.Term.int (2 : Int32))) (Jvm.Term.int (115 : Int32))), (Jvm.Cond.eq (Jvm.Term.elem (Jvm.Term.field (Jvm.Term.string "PennyMore$Reader" (54 : Nat)) "java/lang/String" "value" "[B") (Jvm.Term.int (3 : Int32))) (Jvm.Term.int (116 : Int32))), (Jvm.Cond.eq (Jvm.Term.elem (Jvm.Term.field (Jvm.Term.string "PennyMore$Reader" (54 : Nat)) "java/lang/String" "value" "[B") (Jvm.Term.int (4 : Int32))) (Jvm.Term.int (32 : Int32))), (Jvm.Cond.not (Jvm.Cond.eq (Jvm.Term.string "PennyMore$Reader" (52 : Nat)) (Jvm.Term.string "PennyMore$Reader" (54 : Nat)))), (Jvm.Cond.exactly (Jvm.Term.string "PennyMore$Reader" (56 : Nat)) "java/lang/String"), (Jvm.Cond.eq (Jvm.Term.field (Jvm.Term.string "PennyMore$Reader" (56 : Nat)) "java/lang/String" "coder" "B") (Jvm.Term.int (0 : Int32))), (Jvm.Cond.arrayOf (Jvm.Term.field (Jvm.Term.string "PennyMore$Reader" (56 : Nat)) "java/lang/String" "value" "[B") Jvm.ClassFile.FieldType.byte), (Jvm.Cond.eq (Jvm.Term.length (Jvm.Term.field (Jvm.Term.string "PennyMore$Reader" (56 : Nat)) "java/lang/String" "value" "[B")) (Jvm.Term.int (3 : Int32)))]
def mm_nl_3 : List Cond := [(Jvm.Cond.eq (Jvm.Term.elem (Jvm.Term.field (Jvm.Term.string "PennyMore$Reader" (56 : Nat)) "java/lang/String" "value" "[B") (Jvm.Term.int (0 : Int32))) (Jvm.Term.int (117 : Int32))), (Jvm.Cond.eq (Jvm.Term.elem (Jvm.Term.field (Jvm.Term.string "PennyMore$Reader" (56 : Nat)) "java/lang/String" "value" "[B") (Jvm.Term.int (1 : Int32))) (Jvm.Term.int (112 : Int32))), (Jvm.Cond.eq (Jvm.Term.elem (Jvm.Term.field (Jvm.Term.string "PennyMore$Reader" (56 : Nat)) "java/lang/String" "value" "[B") (Jvm.Term.int (2 : Int32))) (Jvm.Term.int (32 : Int32))), (Jvm.Cond.not (Jvm.Cond.eq (Jvm.Term.string "PennyMore$Reader" (52 : Nat)) (Jvm.Term.string "PennyMore$Reader" (56 : Nat)))), (Jvm.Cond.not (Jvm.Cond.eq (Jvm.Term.string "PennyMore$Reader" (54 : Nat)) (Jvm.Term.string "PennyMore$Reader" (56 : Nat)))), (Jvm.Cond.exactly (Jvm.Term.string "PennyMore$Reader" (58 : Nat)) "java/lang/String"), (Jvm.Cond.eq (Jvm.Term.field (Jvm.Term.string "PennyMore$Reader" (58 : Nat)) "java/lang/String" "coder" "B") (Jvm.Term.int (0 : Int32))), (Jvm.Cond.arrayOf (Jvm.Term.field (Jvm.Term.string "PennyMore$Reader" (58 : Nat)) "java/lang/String" "value" "[B") Jvm.ClassFile.FieldType.byte), (Jvm.Cond.eq (Jvm.Term.length (Jvm.Term.field (Jvm.Term.string "PennyMore$Reader" (58 : Nat)) "java/lang/String" "value" "[B")) (Jvm.Term.int (5 : Int32))), (Jvm.Cond.eq (Jvm.Term.elem (Jvm.Term.field (Jvm.Term.string "PennyMore$Reader" (58 : Nat)) "java/lang/String" "value" "[B") (Jvm.Term.int (0 : Int32))) (Jvm.Term.int (100 : Int32))), (Jvm.Cond.eq (Jvm.Term.elem (Jvm.Term.field (Jvm.Term.string "PennyMore$Reader" (58 : Nat)) "java/lang/String" "value" "[B") (Jvm.Term.int (1 : Int32))) (Jvm.Term.int (111 : Int32))), (Jvm.Cond.eq (Jvm.Term.elem (Jvm.Term.field (Jvm.Term.string "PennyMore$Reader" (58 : Nat)) "java/lang/String" "value" "[B") (Jvm.Term.int (2 : Int32))) (Jvm.Term.int (119 : Int32))), (Jvm.Cond.eq (Jvm.Term.elem (Jvm.Term.field (Jvm.Term.string "PennyMore$Reader" (58 : Nat)) "java/lang/String" "value" "[B") (Jvm.Term.int (3 : Int32))) (Jvm.Term.int (110 : Int32))), (Jvm.Cond.eq (Jvm.Term.elem (Jvm.Term.field (Jvm.Term.string "PennyMore$Reader" (58 : Nat)) "java/lang/String" "value" "[B") (Jvm.Term.int (4 : Int32))) (Jvm.Term.int (32 : Int32))), (Jvm.Cond.not (Jvm.Cond.eq (Jvm.Term.string "PennyMore$Reader" (52 : Nat)) (Jvm.Term.string "PennyMore$Reader" (58 : Nat)))), (Jvm.Cond.not (Jvm.Cond.eq (Jvm.Term.string "PennyMore$Reader" (54 : Nat)) (Jvm.Term.string "PennyMore$Reader" (58 : Nat)))), (Jvm.Cond.not (Jvm.Cond.eq (Jvm.Term.string "PennyMore$Reader" (56 : Nat)) (Jvm.Term.string "PennyMore$Reader" (58 : Nat)))), (Jvm.Cond.exactly (Jvm.Term.string "PennyMore$Reader" (60 : Nat)) "java/lang/String"), (Jvm.Cond.eq (Jvm.Term.field (Jvm.Term.string "PennyMore$Reader" (60 : Nat)) "java/lang/String" "coder" "B") (Jvm.Term.int (0 : Int32))), (Jvm.Cond.arrayOf (Jvm.Term.field (Jvm.Term.string "PennyMore$Reader" (60 : Nat)) "java/lang/String" "value" "[B") Jvm.ClassFile.FieldType.byte), (Jvm.Cond.eq (Jvm.Term.length (Jvm.Term.field (Jvm.Term.string "PennyMore$Reader" (60 : Nat)) "java/lang/String" "value" "[B")) (Jvm.Term.int (5 : Int32))), (Jvm.Cond.eq (Jvm.Term.elem (Jvm.Term.field (Jvm.Term.string "PennyMore$Reader" (60 : Nat)) "java/lang/String" "value" "[B") (Jvm.Term.int (0 : Int32))) (Jvm.Term.int (97 : Int32))), (Jvm.Cond.eq (Jvm.Term.elem (Jvm.Term.field (Jvm.Term.string "PennyMore$Reader" (60 : Nat)) "java/lang/String" "value" "[B") (Jvm.Term.int (1 : Int32))) (Jvm.Term.int (119 : Int32))), (Jvm.Cond.eq (Jvm.Term.elem (Jvm.Term.field (Jvm.Term.string "PennyMore$Reader" (60 : Nat)) "java/lang/String" "value" "[B") (Jvm.Term.int (2 : Int32))) (Jvm.Term.int (97 : Int32))), (Jvm.Cond.eq (Jvm.Term.elem (Jvm.Term.field (Jvm.Term.string "PennyMore$Reader" (60 : Nat)) "java/lang/String" "value" "[B") (Jvm.Term.int (3 : Int32))) (Jvm.Term.int (121 : Int32))), (Jvm.Cond.eq (Jvm.Term.elem (Jvm.Term.field (Jvm.Term.string "PennyMore$Reader" (60 : Nat)) "java/lang/String" "value" "[B") (Jvm.Term.int (4 : Int32))) (Jvm.Term.int (32 : Int32))), (Jvm.Cond.not (Jvm.Cond.eq (Jvm.Term.string "PennyMore$Reader" (52 : Nat)) (Jvm.Term.string "PennyMore$Reader" (60 : Nat)))), (Jvm.Cond.not (Jvm.Cond.eq (Jvm.Term.string "PennyMore$Reader" (54 : Nat)) (Jvm.Term.string "PennyMore$Reader" (60 : Nat)))), (Jvm.Cond.not (Jvm.Cond.eq (Jvm.Term.string "PennyMore$Reader" (56 : Nat)) (Jvm.Term.string "PennyMore$Reader" (60 : Nat)))), (Jvm.Cond.not (Jvm.Cond.eq (Jvm.Term.string "PennyMore$Reader" (58 : Nat)) (Jvm.Term.string "PennyMore$Reader" (60 : Nat)))), (Jvm.Cond.exactly (Jvm.Term.string "PennyMore$Reader" (62 : Nat)) "java/lang/String"), (Jvm.Cond.eq (Jvm.Term.field (Jvm.Term.string "PennyMore$Reader" (62 : Nat)) "java/lang/String" "coder" "B") (Jvm.Term.int (0 : Int32))), (Jvm.Cond.arrayOf (Jvm.Term.field (Jvm.Term.string "PennyMore$Reader" (62 : Nat)) "java/lang/String" "value" "[B") Jvm.ClassFile.FieldType.byte), (Jvm.Cond.eq (Jvm.Term.length (Jvm.Term.field (Jvm.Term.string "PennyMore$Reader" (62 : Nat)) "java/lang/String" "value" "[B")) (Jvm.Term.int (4 : Int32))), (Jvm.Cond.eq (Jvm.Term.elem (Jvm.Term.field (Jvm.Term.string "PennyMore$Reader" (62 : Nat)) "java/lang/String" "value" "[B") (Jvm.Term.int (0 : Int32))) (Jvm.Term.int (102 : Int32))), (Jvm.Cond.eq (Jvm.Term.elem (Jvm.Term.field (Jvm.Term.string "PennyMore$Reader" (62 : Nat)) "java/lang/String" "value" "[B") (Jvm.Term.int (1 : Int32))) (Jvm.Term.int (101 : Int32))), (Jvm.Cond.eq (Jvm.Term.elem (Jvm.Term.field (Jvm.Term.string "PennyMore$Reader" (62 : Nat)) "java/lang/String" "value" "[B") (Jvm.Term.int (2 : Int32))) (Jvm.Term.int (101 : Int32))), (Jvm.Cond.eq (Jvm.Term.elem (Jvm.Term.field (Jvm.Term.string "PennyMore$Reader" (62 : Nat)) "java/lang/String" "value" "[B") (Jvm.Term.int (3 : Int32))) (Jvm.Term.int (32 : Int32))), (Jvm.Cond.not (Jvm.Cond.eq (Jvm.Term.string "PennyMore$Reader" (52 : Nat)) (Jvm.Term.string "PennyMore$Reader" (62 : Nat)))), (Jvm.Cond.not (Jvm.Cond.eq (Jvm.Term.string "PennyMore$Reader" (54 : Nat)) (Jvm.Term.string "PennyMore$Reader" (62 : Nat)))), (Jvm.Cond.not (Jvm.Cond.eq (Jvm.Term.string "PennyMore$Reader" (56 : Nat)) (Jvm.Term.string "PennyMore$Reader" (62 : Nat)))), (Jvm.Cond.not (Jvm.Cond.eq (Jvm.Term.string "PennyMore$Reader" (58 : Nat)) (Jvm.Term.string "PennyMore$Reader" (62 : Nat)))), (Jvm.Cond.not (Jvm.Cond.eq (Jvm.Term.string "PennyMore$Reader" (60 : Nat)) (Jvm.Term.string "PennyMore$Reader" (62 : Nat)))), (Jvm.Cond.exactly (Jvm.Term.string "PennyMore$Reader" (64 : Nat)) "java/lang/String"), (Jvm.Cond.eq (Jvm.Term.field (Jvm.Term.string "PennyMore$Reader" (64 : Nat)) "java/lang/String" "coder" "B") (Jvm.Term.int (0 : Int32))), (Jvm.Cond.arrayOf (Jvm.Term.field (Jvm.Term.string "PennyMore$Reader" (64 : Nat)) "java/lang/String" "value" "[B") Jvm.ClassFile.FieldType.byte), (Jvm.Cond.eq (Jvm.Term.length (Jvm.Term.field (Jvm.Term.string "PennyMore$Reader" (64 : Nat)) "java/lang/String" "value" "[B")) (Jvm.Term.int (0 : Int32))), (Jvm.Cond.not (Jvm.Cond.eq (Jvm.Term.string "PennyMore$Reader" (52 : Nat)) (Jvm.Term.string "PennyMore$Reader" (64 : Nat)))), (Jvm.Cond.not (Jvm.Cond.eq (Jvm.Term.string "PennyMore$Reader" (54 : Nat)) (Jvm.Term.string "PennyMore$Reader" (64 : Nat)))), (Jvm.Cond.not (Jvm.Cond.eq (Jvm.Term.string "PennyMore$Reader" (56 : Nat)) (Jvm.Term.string "PennyMore$Reader" (64 : Nat)))), (Jvm.Cond.not (Jvm.Cond.eq (Jvm.Term.string "PennyMore$Reader" (58 : Nat)) (Jvm.Term.string "PennyMore$Reader" (64 : Nat)))), (Jvm.Cond.not (Jvm.Cond.eq (Jvm.Term.string "PennyMore$Reader" (60 : Nat)) (Jvm.Term.string "PennyMore$Reader" (64 : Nat)))), (Jvm.Cond.not (Jvm.Cond.eq (Jvm.Term.string "PennyMore$Reader" (62 : Nat)) (Jvm.Term.string "PennyMore$Reader" (64 : Nat)))), (Jvm.Cond.exactly (Jvm.Term.string "PennyMore$Reader" (76 : Nat)) "java/lang/String"), (Jvm.Cond.eq (Jvm.Term.field (Jvm.Term.string "PennyMore$Reader" (76 : Nat)) "java/lang/String" "coder" "B") (Jvm.Term.int (0 : Int32))), (Jvm.Cond.arrayOf (Jvm.Term.field (Jvm.Term.string "PennyMore$Reader" (76 : Nat)) "java/lang/String" "value" "[B") Jvm.ClassFile.FieldType.byte), (Jvm.Cond.eq (Jvm.Term.length (Jvm.Term.field (Jvm.Term.string "PennyMore$Reader" (76 : Nat)) "java/lang/String" "value" "[B")) (Jvm.Term.int (1 : Int32))), (Jvm.Cond.eq (Jvm.Term.elem (Jvm.Term.field (Jvm.Term.string "PennyMore$Reader" (76 : Nat)) "java/lang/String" "value" "[B") (Jvm.Term.int (0 : Int32))) (Jvm.Term.int (32 : Int32))), (Jvm.Cond.not (Jvm.Cond.eq (Jvm.Term.string "PennyMore$Reader" (52 : Nat)) (Jvm.Term.string "PennyMore$Reader" (76 : Nat)))), (Jvm.Cond.not (Jvm.Cond.eq (Jvm.Term.string "PennyMore$Reader" (54 : Nat)) (Jvm.Term.string "PennyMore$Reader" (76 : Nat))))]
def mm_nl_4 : List Cond := [(Jvm.Cond.not (Jvm.Cond.eq (Jvm.Term.string "PennyMore$Reader" (56 : Nat)) (Jvm.Term.string "PennyMore$Reader" (76 : Nat)))), (Jvm.Cond.not (Jvm.Cond.eq (Jvm.Term.string "PennyMore$Reader" (58 : Nat)) (Jvm.Term.string "PennyMore$Reader" (76 : Nat)))), (Jvm.Cond.not (Jvm.Cond.eq (Jvm.Term.string "PennyMore$Reader" (60 : Nat)) (Jvm.Term.string "PennyMore$Reader" (76 : Nat)))), (Jvm.Cond.not (Jvm.Cond.eq (Jvm.Term.string "PennyMore$Reader" (62 : Nat)) (Jvm.Term.string "PennyMore$Reader" (76 : Nat)))), (Jvm.Cond.not (Jvm.Cond.eq (Jvm.Term.string "PennyMore$Reader" (64 : Nat)) (Jvm.Term.string "PennyMore$Reader" (76 : Nat)))), (Jvm.Cond.exactly (Jvm.Term.string "PennyMore$Reader" (119 : Nat)) "java/lang/String"), (Jvm.Cond.eq (Jvm.Term.field (Jvm.Term.string "PennyMore$Reader" (119 : Nat)) "java/lang/String" "coder" "B") (Jvm.Term.int (0 : Int32))), (Jvm.Cond.arrayOf (Jvm.Term.field (Jvm.Term.string "PennyMore$Reader" (119 : Nat)) "java/lang/String" "value" "[B") Jvm.ClassFile.FieldType.byte), (Jvm.Cond.eq (Jvm.Term.length (Jvm.Term.field (Jvm.Term.string "PennyMore$Reader" (119 : Nat)) "java/lang/String" "value" "[B")) (Jvm.Term.int (7 : Int32))), (Jvm.Cond.eq (Jvm.Term.elem (Jvm.Term.field (Jvm.Term.string "PennyMore$Reader" (119 : Nat)) "java/lang/String" "value" "[B") (Jvm.Term.int (0 : Int32))) (Jvm.Term.int (98 : Int32))), (Jvm.Cond.eq (Jvm.Term.elem (Jvm.Term.field (Jvm.Term.string "PennyMore$Reader" (119 : Nat)) "java/lang/String" "value" "[B") (Jvm.Term.int (1 : Int32))) (Jvm.Term.int (107 : Int32))), (Jvm.Cond.eq (Jvm.Term.elem (Jvm.Term.field (Jvm.Term.string "PennyMore$Reader" (119 : Nat)) "java/lang/String" "value" "[B") (Jvm.Term.int (2 : Int32))) (Jvm.Term.int (112 : Int32))), (Jvm.Cond.eq (Jvm.Term.elem (Jvm.Term.field (Jvm.Term.string "PennyMore$Reader" (119 : Nat)) "java/lang/String" "value" "[B") (Jvm.Term.int (3 : Int32))) (Jvm.Term.int (108 : Int32))), (Jvm.Cond.eq (Jvm.Term.elem (Jvm.Term.field (Jvm.Term.string "PennyMore$Reader" (119 : Nat)) "java/lang/String" "value" "[B") (Jvm.Term.int (4 : Int32))) (Jvm.Term.int (114 : Int32))), (Jvm.Cond.eq (Jvm.Term.elem (Jvm.Term.field (Jvm.Term.string "PennyMore$Reader" (119 : Nat)) "java/lang/String" "value" "[B") (Jvm.Term.int (5 : Int32))) (Jvm.Term.int (97 : Int32))), (Jvm.Cond.eq (Jvm.Term.elem (Jvm.Term.field (Jvm.Term.string "PennyMore$Reader" (119 : Nat)) "java/lang/String" "value" "[B") (Jvm.Term.int (6 : Int32))) (Jvm.Term.int (102 : Int32))), (Jvm.Cond.not (Jvm.Cond.eq (Jvm.Term.string "PennyMore$Reader" (52 : Nat)) (Jvm.Term.string "PennyMore$Reader" (119 : Nat)))), (Jvm.Cond.not (Jvm.Cond.eq (Jvm.Term.string "PennyMore$Reader" (54 : Nat)) (Jvm.Term.string "PennyMore$Reader" (119 : Nat)))), (Jvm.Cond.not (Jvm.Cond.eq (Jvm.Term.string "PennyMore$Reader" (56 : Nat)) (Jvm.Term.string "PennyMore$Reader" (119 : Nat)))), (Jvm.Cond.not (Jvm.Cond.eq (Jvm.Term.string "PennyMore$Reader" (58 : Nat)) (Jvm.Term.string "PennyMore$Reader" (119 : Nat)))), (Jvm.Cond.not (Jvm.Cond.eq (Jvm.Term.string "PennyMore$Reader" (60 : Nat)) (Jvm.Term.string "PennyMore$Reader" (119 : Nat)))), (Jvm.Cond.not (Jvm.Cond.eq (Jvm.Term.string "PennyMore$Reader" (62 : Nat)) (Jvm.Term.string "PennyMore$Reader" (119 : Nat)))), (Jvm.Cond.not (Jvm.Cond.eq (Jvm.Term.string "PennyMore$Reader" (64 : Nat)) (Jvm.Term.string "PennyMore$Reader" (119 : Nat)))), (Jvm.Cond.not (Jvm.Cond.eq (Jvm.Term.string "PennyMore$Reader" (76 : Nat)) (Jvm.Term.string "PennyMore$Reader" (119 : Nat)))), (Jvm.Cond.exactly (Jvm.Term.string "PennyMore$Reader" (125 : Nat)) "java/lang/String"), (Jvm.Cond.eq (Jvm.Term.field (Jvm.Term.string "PennyMore$Reader" (125 : Nat)) "java/lang/String" "coder" "B") (Jvm.Term.int (0 : Int32))), (Jvm.Cond.arrayOf (Jvm.Term.field (Jvm.Term.string "PennyMore$Reader" (125 : Nat)) "java/lang/String" "value" "[B") Jvm.ClassFile.FieldType.byte), (Jvm.Cond.eq (Jvm.Term.length (Jvm.Term.field (Jvm.Term.string "PennyMore$Reader" (125 : Nat)) "java/lang/String" "value" "[B")) (Jvm.Term.int (3 : Int32))), (Jvm.Cond.eq (Jvm.Term.elem (Jvm.Term.field (Jvm.Term.string "PennyMore$Reader" (125 : Nat)) "java/lang/String" "value" "[B") (Jvm.Term.int (0 : Int32))) (Jvm.Term.int (60 : Int32))), (Jvm.Cond.eq (Jvm.Term.elem (Jvm.Term.field (Jvm.Term.string "PennyMore$Reader" (125 : Nat)) "java/lang/String" "value" "[B") (Jvm.Term.int (1 : Int32))) (Jvm.Term.int (61 : Int32))), (Jvm.Cond.eq (Jvm.Term.elem (Jvm.Term.field (Jvm.Term.string "PennyMore$Reader" (125 : Nat)) "java/lang/String" "value" "[B") (Jvm.Term.int (2 : Int32))) (Jvm.Term.int (62 : Int32))), (Jvm.Cond.not (Jvm.Cond.eq (Jvm.Term.string "PennyMore$Reader" (52 : Nat)) (Jvm.Term.string "PennyMore$Reader" (125 : Nat)))), (Jvm.Cond.not (Jvm.Cond.eq (Jvm.Term.string "PennyMore$Reader" (54 : Nat)) (Jvm.Term.string "PennyMore$Reader" (125 : Nat)))), (Jvm.Cond.not (Jvm.Cond.eq (Jvm.Term.string "PennyMore$Reader" (56 : Nat)) (Jvm.Term.string "PennyMore$Reader" (125 : Nat)))), (Jvm.Cond.not (Jvm.Cond.eq (Jvm.Term.string "PennyMore$Reader" (58 : Nat)) (Jvm.Term.string "PennyMore$Reader" (125 : Nat)))), (Jvm.Cond.not (Jvm.Cond.eq (Jvm.Term.string "PennyMore$Reader" (60 : Nat)) (Jvm.Term.string "PennyMore$Reader" (125 : Nat)))), (Jvm.Cond.not (Jvm.Cond.eq (Jvm.Term.string "PennyMore$Reader" (62 : Nat)) (Jvm.Term.string "PennyMore$Reader" (125 : Nat)))), (Jvm.Cond.not (Jvm.Cond.eq (Jvm.Term.string "PennyMore$Reader" (64 : Nat)) (Jvm.Term.string "PennyMore$Reader" (125 : Nat)))), (Jvm.Cond.not (Jvm.Cond.eq (Jvm.Term.string "PennyMore$Reader" (76 : Nat)) (Jvm.Term.string "PennyMore$Reader" (125 : Nat)))), (Jvm.Cond.not (Jvm.Cond.eq (Jvm.Term.string "PennyMore$Reader" (119 : Nat)) (Jvm.Term.string "PennyMore$Reader" (125 : Nat)))), (Jvm.Cond.exactly (Jvm.Term.string "PennyMore$Reader" (117 : Nat)) "java/lang/String"), (Jvm.Cond.eq (Jvm.Term.field (Jvm.Term.string "PennyMore$Reader" (117 : Nat)) "java/lang/String" "coder" "B") (Jvm.Term.int (0 : Int32))), (Jvm.Cond.arrayOf (Jvm.Term.field (Jvm.Term.string "PennyMore$Reader" (117 : Nat)) "java/lang/String" "value" "[B") Jvm.ClassFile.FieldType.byte), (Jvm.Cond.eq (Jvm.Term.length (Jvm.Term.field (Jvm.Term.string "PennyMore$Reader" (117 : Nat)) "java/lang/String" "value" "[B")) (Jvm.Term.int (1 : Int32))), (Jvm.Cond.eq (Jvm.Term.elem (Jvm.Term.field (Jvm.Term.string "PennyMore$Reader" (117 : Nat)) "java/lang/String" "value" "[B") (Jvm.Term.int (0 : Int32))) (Jvm.Term.int (41 : Int32))), (Jvm.Cond.not (Jvm.Cond.eq (Jvm.Term.string "PennyMore$Reader" (52 : Nat)) (Jvm.Term.string "PennyMore$Reader" (117 : Nat)))), (Jvm.Cond.not (Jvm.Cond.eq (Jvm.Term.string "PennyMore$Reader" (54 : Nat)) (Jvm.Term.string "PennyMore$Reader" (117 : Nat)))), (Jvm.Cond.not (Jvm.Cond.eq (Jvm.Term.string "PennyMore$Reader" (56 : Nat)) (Jvm.Term.string "PennyMore$Reader" (117 : Nat)))), (Jvm.Cond.not (Jvm.Cond.eq (Jvm.Term.string "PennyMore$Reader" (58 : Nat)) (Jvm.Term.string "PennyMore$Reader" (117 : Nat)))), (Jvm.Cond.not (Jvm.Cond.eq (Jvm.Term.string "PennyMore$Reader" (60 : Nat)) (Jvm.Term.string "PennyMore$Reader" (117 : Nat)))), (Jvm.Cond.not (Jvm.Cond.eq (Jvm.Term.string "PennyMore$Reader" (62 : Nat)) (Jvm.Term.string "PennyMore$Reader" (117 : Nat)))), (Jvm.Cond.not (Jvm.Cond.eq (Jvm.Term.string "PennyMore$Reader" (64 : Nat)) (Jvm.Term.string "PennyMore$Reader" (117 : Nat)))), (Jvm.Cond.not (Jvm.Cond.eq (Jvm.Term.string "PennyMore$Reader" (76 : Nat)) (Jvm.Term.string "PennyMore$Reader" (117 : Nat)))), (Jvm.Cond.not (Jvm.Cond.eq (Jvm.Term.string "PennyMore$Reader" (119 : Nat)) (Jvm.Term.string "PennyMore$Reader" (117 : Nat)))), (Jvm.Cond.not (Jvm.Cond.eq (Jvm.Term.string "PennyMore$Reader" (125 : Nat)) (Jvm.Term.string "PennyMore$Reader" (117 : Nat)))), (Jvm.Cond.exactly (Jvm.Term.string "PennyMore$Reader" (33 : Nat)) "java/lang/String"), (Jvm.Cond.eq (Jvm.Term.field (Jvm.Term.string "PennyMore$Reader" (33 : Nat)) "java/lang/String" "coder" "B") (Jvm.Term.int (0 : Int32))), (Jvm.Cond.arrayOf (Jvm.Term.field (Jvm.Term.string "PennyMore$Reader" (33 : Nat)) "java/lang/String" "value" "[B") Jvm.ClassFile.FieldType.byte), (Jvm.Cond.eq (Jvm.Term.length (Jvm.Term.field (Jvm.Term.string "PennyMore$Reader" (33 : Nat)) "java/lang/String" "value" "[B")) (Jvm.Term.int (1 : Int32))), (Jvm.Cond.eq (Jvm.Term.elem (Jvm.Term.field (Jvm.Term.string "PennyMore$Reader" (33 : Nat)) "java/lang/String" "value" "[B") (Jvm.Term.int (0 : Int32))) (Jvm.Term.int (59 : Int32)))]
def mm_nl_5 : List Cond := [(Jvm.Cond.not (Jvm.Cond.eq (Jvm.Term.string "PennyMore$Reader" (52 : Nat)) (Jvm.Term.string "PennyMore$Reader" (33 : Nat)))), (Jvm.Cond.not (Jvm.Cond.eq (Jvm.Term.string "PennyMore$Reader" (54 : Nat)) (Jvm.Term.string "PennyMore$Reader" (33 : Nat)))), (Jvm.Cond.not (Jvm.Cond.eq (Jvm.Term.string "PennyMore$Reader" (56 : Nat)) (Jvm.Term.string "PennyMore$Reader" (33 : Nat)))), (Jvm.Cond.not (Jvm.Cond.eq (Jvm.Term.string "PennyMore$Reader" (58 : Nat)) (Jvm.Term.string "PennyMore$Reader" (33 : Nat)))), (Jvm.Cond.not (Jvm.Cond.eq (Jvm.Term.string "PennyMore$Reader" (60 : Nat)) (Jvm.Term.string "PennyMore$Reader" (33 : Nat)))), (Jvm.Cond.not (Jvm.Cond.eq (Jvm.Term.string "PennyMore$Reader" (62 : Nat)) (Jvm.Term.string "PennyMore$Reader" (33 : Nat)))), (Jvm.Cond.not (Jvm.Cond.eq (Jvm.Term.string "PennyMore$Reader" (64 : Nat)) (Jvm.Term.string "PennyMore$Reader" (33 : Nat)))), (Jvm.Cond.not (Jvm.Cond.eq (Jvm.Term.string "PennyMore$Reader" (76 : Nat)) (Jvm.Term.string "PennyMore$Reader" (33 : Nat)))), (Jvm.Cond.not (Jvm.Cond.eq (Jvm.Term.string "PennyMore$Reader" (119 : Nat)) (Jvm.Term.string "PennyMore$Reader" (33 : Nat)))), (Jvm.Cond.not (Jvm.Cond.eq (Jvm.Term.string "PennyMore$Reader" (125 : Nat)) (Jvm.Term.string "PennyMore$Reader" (33 : Nat)))), (Jvm.Cond.not (Jvm.Cond.eq (Jvm.Term.string "PennyMore$Reader" (117 : Nat)) (Jvm.Term.string "PennyMore$Reader" (33 : Nat))))]
def mm_nl : List Cond := mm_nl_0 ++ (mm_nl_1 ++ (mm_nl_2 ++ (mm_nl_3 ++ (mm_nl_4 ++ (mm_nl_5)))))
theorem mm_flat : flatC narrow_1 = mm_nl := by decide +kernel
theorem mm_s1 {args : Array Value} {s : State} (h : ∀ w ∈ mm_nl, w.before args s = true) : ∀ i : Nat, i < 12 → (Cond.exactly (Term.string "PennyMore$Reader" (mm_sx i).1) "java/lang/String").before args s = true := by
  intro i hi
  match i, hi with
  | 0, _ => exact h _ (List.mem_append_right _ (List.mem_append_right _ (List.mem_append_right _ (List.mem_append_right _ (List.mem_append_left _ (List.mem_of_getElem? (i := 55) rfl))))))
  | 1, _ => exact h _ (List.mem_append_right _ (List.mem_append_right _ (List.mem_append_left _ (List.mem_of_getElem? (i := 37) rfl))))
  | 2, _ => exact h _ (List.mem_append_right _ (List.mem_append_right _ (List.mem_append_left _ (List.mem_of_getElem? (i := 46) rfl))))
  | 3, _ => exact h _ (List.mem_append_right _ (List.mem_append_right _ (List.mem_append_left _ (List.mem_of_getElem? (i := 56) rfl))))
  | 4, _ => exact h _ (List.mem_append_right _ (List.mem_append_right _ (List.mem_append_right _ (List.mem_append_left _ (List.mem_of_getElem? (i := 5) rfl)))))
  | 5, _ => exact h _ (List.mem_append_right _ (List.mem_append_right _ (List.mem_append_right _ (List.mem_append_left _ (List.mem_of_getElem? (i := 17) rfl)))))
  | 6, _ => exact h _ (List.mem_append_right _ (List.mem_append_right _ (List.mem_append_right _ (List.mem_append_left _ (List.mem_of_getElem? (i := 30) rfl)))))
  | 7, _ => exact h _ (List.mem_append_right _ (List.mem_append_right _ (List.mem_append_right _ (List.mem_append_left _ (List.mem_of_getElem? (i := 43) rfl)))))
  | 8, _ => exact h _ (List.mem_append_right _ (List.mem_append_right _ (List.mem_append_right _ (List.mem_append_left _ (List.mem_of_getElem? (i := 53) rfl)))))
  | 9, _ => exact h _ (List.mem_append_right _ (List.mem_append_right _ (List.mem_append_right _ (List.mem_append_right _ (List.mem_append_left _ (List.mem_of_getElem? (i := 40) rfl))))))
  | 10, _ => exact h _ (List.mem_append_right _ (List.mem_append_right _ (List.mem_append_right _ (List.mem_append_right _ (List.mem_append_left _ (List.mem_of_getElem? (i := 5) rfl))))))
  | 11, _ => exact h _ (List.mem_append_right _ (List.mem_append_right _ (List.mem_append_right _ (List.mem_append_right _ (List.mem_append_left _ (List.mem_of_getElem? (i := 24) rfl))))))
  | i + 12, h => exact absurd h (by omega)
theorem mm_s2 {args : Array Value} {s : State} (h : ∀ w ∈ mm_nl, w.before args s = true) : ∀ i : Nat, i < 12 → (Cond.eq (.field (Term.string "PennyMore$Reader" (mm_sx i).1) "java/lang/String" "coder" "B") (.int 0)).before args s = true := by
  intro i hi
  match i, hi with
  | 0, _ => exact h _ (List.mem_append_right _ (List.mem_append_right _ (List.mem_append_right _ (List.mem_append_right _ (List.mem_append_left _ (List.mem_of_getElem? (i := 56) rfl))))))
  | 1, _ => exact h _ (List.mem_append_right _ (List.mem_append_right _ (List.mem_append_left _ (List.mem_of_getElem? (i := 38) rfl))))
  | 2, _ => exact h _ (List.mem_append_right _ (List.mem_append_right _ (List.mem_append_left _ (List.mem_of_getElem? (i := 47) rfl))))
  | 3, _ => exact h _ (List.mem_append_right _ (List.mem_append_right _ (List.mem_append_left _ (List.mem_of_getElem? (i := 57) rfl))))
  | 4, _ => exact h _ (List.mem_append_right _ (List.mem_append_right _ (List.mem_append_right _ (List.mem_append_left _ (List.mem_of_getElem? (i := 6) rfl)))))
  | 5, _ => exact h _ (List.mem_append_right _ (List.mem_append_right _ (List.mem_append_right _ (List.mem_append_left _ (List.mem_of_getElem? (i := 18) rfl)))))
  | 6, _ => exact h _ (List.mem_append_right _ (List.mem_append_right _ (List.mem_append_right _ (List.mem_append_left _ (List.mem_of_getElem? (i := 31) rfl)))))
  | 7, _ => exact h _ (List.mem_append_right _ (List.mem_append_right _ (List.mem_append_right _ (List.mem_append_left _ (List.mem_of_getElem? (i := 44) rfl)))))
  | 8, _ => exact h _ (List.mem_append_right _ (List.mem_append_right _ (List.mem_append_right _ (List.mem_append_left _ (List.mem_of_getElem? (i := 54) rfl)))))
  | 9, _ => exact h _ (List.mem_append_right _ (List.mem_append_right _ (List.mem_append_right _ (List.mem_append_right _ (List.mem_append_left _ (List.mem_of_getElem? (i := 41) rfl))))))
  | 10, _ => exact h _ (List.mem_append_right _ (List.mem_append_right _ (List.mem_append_right _ (List.mem_append_right _ (List.mem_append_left _ (List.mem_of_getElem? (i := 6) rfl))))))
  | 11, _ => exact h _ (List.mem_append_right _ (List.mem_append_right _ (List.mem_append_right _ (List.mem_append_right _ (List.mem_append_left _ (List.mem_of_getElem? (i := 25) rfl))))))
  | i + 12, h => exact absurd h (by omega)
theorem mm_s3 {args : Array Value} {s : State} (h : ∀ w ∈ mm_nl, w.before args s = true) : ∀ i : Nat, i < 12 → (Cond.arrayOf (.field (Term.string "PennyMore$Reader" (mm_sx i).1) "java/lang/String" "value" "[B") .byte).before args s = true := by
  intro i hi
  match i, hi with
  | 0, _ => exact h _ (List.mem_append_right _ (List.mem_append_right _ (List.mem_append_right _ (List.mem_append_right _ (List.mem_append_left _ (List.mem_of_getElem? (i := 57) rfl))))))
  | 1, _ => exact h _ (List.mem_append_right _ (List.mem_append_right _ (List.mem_append_left _ (List.mem_of_getElem? (i := 39) rfl))))
  | 2, _ => exact h _ (List.mem_append_right _ (List.mem_append_right _ (List.mem_append_left _ (List.mem_of_getElem? (i := 48) rfl))))
  | 3, _ => exact h _ (List.mem_append_right _ (List.mem_append_right _ (List.mem_append_left _ (List.mem_of_getElem? (i := 58) rfl))))
  | 4, _ => exact h _ (List.mem_append_right _ (List.mem_append_right _ (List.mem_append_right _ (List.mem_append_left _ (List.mem_of_getElem? (i := 7) rfl)))))
  | 5, _ => exact h _ (List.mem_append_right _ (List.mem_append_right _ (List.mem_append_right _ (List.mem_append_left _ (List.mem_of_getElem? (i := 19) rfl)))))
  | 6, _ => exact h _ (List.mem_append_right _ (List.mem_append_right _ (List.mem_append_right _ (List.mem_append_left _ (List.mem_of_getElem? (i := 32) rfl)))))
  | 7, _ => exact h _ (List.mem_append_right _ (List.mem_append_right _ (List.mem_append_right _ (List.mem_append_left _ (List.mem_of_getElem? (i := 45) rfl)))))
  | 8, _ => exact h _ (List.mem_append_right _ (List.mem_append_right _ (List.mem_append_right _ (List.mem_append_left _ (List.mem_of_getElem? (i := 55) rfl)))))
  | 9, _ => exact h _ (List.mem_append_right _ (List.mem_append_right _ (List.mem_append_right _ (List.mem_append_right _ (List.mem_append_left _ (List.mem_of_getElem? (i := 42) rfl))))))
  | 10, _ => exact h _ (List.mem_append_right _ (List.mem_append_right _ (List.mem_append_right _ (List.mem_append_right _ (List.mem_append_left _ (List.mem_of_getElem? (i := 7) rfl))))))
  | 11, _ => exact h _ (List.mem_append_right _ (List.mem_append_right _ (List.mem_append_right _ (List.mem_append_right _ (List.mem_append_left _ (List.mem_of_getElem? (i := 26) rfl))))))
  | i + 12, h => exact absurd h (by omega)
theorem mm_s4 {args : Array Value} {s : State} (h : ∀ w ∈ mm_nl, w.before args s = true) : ∀ i : Nat, i < 12 → (Cond.eq (.length (.field (Term.string "PennyMore$Reader" (mm_sx i).1) "java/lang/String" "value" "[B")) (.int (Int32.ofNat (mm_sl.getD i 0)))).before args s = true := by
  intro i hi
  match i, hi with
  | 0, _ => exact h _ (List.mem_append_right _ (List.mem_append_right _ (List.mem_append_right _ (List.mem_append_right _ (List.mem_append_left _ (List.mem_of_getElem? (i := 58) rfl))))))
  | 1, _ => exact h _ (List.mem_append_right _ (List.mem_append_right _ (List.mem_append_left _ (List.mem_of_getElem? (i := 40) rfl))))
  | 2, _ => exact h _ (List.mem_append_right _ (List.mem_append_right _ (List.mem_append_left _ (List.mem_of_getElem? (i := 49) rfl))))
  | 3, _ => exact h _ (List.mem_append_right _ (List.mem_append_right _ (List.mem_append_left _ (List.mem_of_getElem? (i := 59) rfl))))
  | 4, _ => exact h _ (List.mem_append_right _ (List.mem_append_right _ (List.mem_append_right _ (List.mem_append_left _ (List.mem_of_getElem? (i := 8) rfl)))))
  | 5, _ => exact h _ (List.mem_append_right _ (List.mem_append_right _ (List.mem_append_right _ (List.mem_append_left _ (List.mem_of_getElem? (i := 20) rfl)))))
  | 6, _ => exact h _ (List.mem_append_right _ (List.mem_append_right _ (List.mem_append_right _ (List.mem_append_left _ (List.mem_of_getElem? (i := 33) rfl)))))
  | 7, _ => exact h _ (List.mem_append_right _ (List.mem_append_right _ (List.mem_append_right _ (List.mem_append_left _ (List.mem_of_getElem? (i := 46) rfl)))))
  | 8, _ => exact h _ (List.mem_append_right _ (List.mem_append_right _ (List.mem_append_right _ (List.mem_append_left _ (List.mem_of_getElem? (i := 56) rfl)))))
  | 9, _ => exact h _ (List.mem_append_right _ (List.mem_append_right _ (List.mem_append_right _ (List.mem_append_right _ (List.mem_append_left _ (List.mem_of_getElem? (i := 43) rfl))))))
  | 10, _ => exact h _ (List.mem_append_right _ (List.mem_append_right _ (List.mem_append_right _ (List.mem_append_right _ (List.mem_append_left _ (List.mem_of_getElem? (i := 8) rfl))))))
  | 11, _ => exact h _ (List.mem_append_right _ (List.mem_append_right _ (List.mem_append_right _ (List.mem_append_right _ (List.mem_append_left _ (List.mem_of_getElem? (i := 27) rfl))))))
  | i + 12, h => exact absurd h (by omega)
theorem mm_s5 {args : Array Value} {s : State} (h : ∀ w ∈ mm_nl, w.before args s = true) : ∀ i : Nat, i < 12 → ∀ j : Nat, j < mm_sl.getD i 0 → (Cond.eq (.elem (.field (Term.string "PennyMore$Reader" (mm_sx i).1) "java/lang/String" "value" "[B") (.int (Int32.ofNat j))) (.int ((mm_sb.getD i []).getD j 0))).before args s = true := by
  intro i hi
  match i, hi with
  | 0, _ => exact (by
    intro j hj
    match j, hj with
    | 0, _ => exact h _ (List.mem_append_right _ (List.mem_append_right _ (List.mem_append_right _ (List.mem_append_right _ (List.mem_append_left _ (List.mem_of_getElem? (i := 59) rfl))))))
    | j + 1, h => exact absurd h (by show ¬ j + 1 < 1; omega))
  | 1, _ => exact (by
    intro j hj
    match j, hj with
    | 0, _ => exact h _ (List.mem_append_right _ (List.mem_append_right _ (List.mem_append_left _ (List.mem_of_getElem? (i := 41) rfl))))
    | 1, _ => exact h _ (List.mem_append_right _ (List.mem_append_right _ (List.mem_append_left _ (List.mem_of_getElem? (i := 42) rfl))))
    | 2, _ => exact h _ (List.mem_append_right _ (List.mem_append_right _ (List.mem_append_left _ (List.mem_of_getElem? (i := 43) rfl))))
    | 3, _ => exact h _ (List.mem_append_right _ (List.mem_append_right _ (List.mem_append_left _ (List.mem_of_getElem? (i := 44) rfl))))
    | 4, _ => exact h _ (List.mem_append_right _ (List.mem_append_right _ (List.mem_append_left _ (List.mem_of_getElem? (i := 45) rfl))))
    | j + 5, h => exact absurd h (by show ¬ j + 5 < 5; omega))
  | 2, _ => exact (by
    intro j hj
    match j, hj with
    | 0, _ => exact h _ (List.mem_append_right _ (List.mem_append_right _ (List.mem_append_left _ (List.mem_of_getElem? (i := 50) rfl))))
    | 1, _ => exact h _ (List.mem_append_right _ (List.mem_append_right _ (List.mem_append_left _ (List.mem_of_getElem? (i := 51) rfl))))
    | 2, _ => exact h _ (List.mem_append_right _ (List.mem_append_right _ (List.mem_append_left _ (List.mem_of_getElem? (i := 52) rfl))))
    | 3, _ => exact h _ (List.mem_append_right _ (List.mem_append_right _ (List.mem_append_left _ (List.mem_of_getElem? (i := 53) rfl))))
    | 4, _ => exact h _ (List.mem_append_right _ (List.mem_append_right _ (List.mem_append_left _ (List.mem_of_getElem? (i := 54) rfl))))
    | j + 5, h => exact absurd h (by show ¬ j + 5 < 5; omega))
  | 3, _ => exact (by
    intro j hj
    match j, hj with
    | 0, _ => exact h _ (List.mem_append_right _ (List.mem_append_right _ (List.mem_append_right _ (List.mem_append_left _ (List.mem_of_getElem? (i := 0) rfl)))))
    | 1, _ => exact h _ (List.mem_append_right _ (List.mem_append_right _ (List.mem_append_right _ (List.mem_append_left _ (List.mem_of_getElem? (i := 1) rfl)))))
    | 2, _ => exact h _ (List.mem_append_right _ (List.mem_append_right _ (List.mem_append_right _ (List.mem_append_left _ (List.mem_of_getElem? (i := 2) rfl)))))
    | j + 3, h => exact absurd h (by show ¬ j + 3 < 3; omega))
  | 4, _ => exact (by
    intro j hj
    match j, hj with
    | 0, _ => exact h _ (List.mem_append_right _ (List.mem_append_right _ (List.mem_append_right _ (List.mem_append_left _ (List.mem_of_getElem? (i := 9) rfl)))))
    | 1, _ => exact h _ (List.mem_append_right _ (List.mem_append_right _ (List.mem_append_right _ (List.mem_append_left _ (List.mem_of_getElem? (i := 10) rfl)))))
    | 2, _ => exact h _ (List.mem_append_right _ (List.mem_append_right _ (List.mem_append_right _ (List.mem_append_left _ (List.mem_of_getElem? (i := 11) rfl)))))
    | 3, _ => exact h _ (List.mem_append_right _ (List.mem_append_right _ (List.mem_append_right _ (List.mem_append_left _ (List.mem_of_getElem? (i := 12) rfl)))))
    | 4, _ => exact h _ (List.mem_append_right _ (List.mem_append_right _ (List.mem_append_right _ (List.mem_append_left _ (List.mem_of_getElem? (i := 13) rfl)))))
    | j + 5, h => exact absurd h (by show ¬ j + 5 < 5; omega))
  | 5, _ => exact (by
    intro j hj
    match j, hj with
    | 0, _ => exact h _ (List.mem_append_right _ (List.mem_append_right _ (List.mem_append_right _ (List.mem_append_left _ (List.mem_of_getElem? (i := 21) rfl)))))
    | 1, _ => exact h _ (List.mem_append_right _ (List.mem_append_right _ (List.mem_append_right _ (List.mem_append_left _ (List.mem_of_getElem? (i := 22) rfl)))))
    | 2, _ => exact h _ (List.mem_append_right _ (List.mem_append_right _ (List.mem_append_right _ (List.mem_append_left _ (List.mem_of_getElem? (i := 23) rfl)))))
    | 3, _ => exact h _ (List.mem_append_right _ (List.mem_append_right _ (List.mem_append_right _ (List.mem_append_left _ (List.mem_of_getElem? (i := 24) rfl)))))
    | 4, _ => exact h _ (List.mem_append_right _ (List.mem_append_right _ (List.mem_append_right _ (List.mem_append_left _ (List.mem_of_getElem? (i := 25) rfl)))))
    | j + 5, h => exact absurd h (by show ¬ j + 5 < 5; omega))
  | 6, _ => exact (by
    intro j hj
    match j, hj with
    | 0, _ => exact h _ (List.mem_append_right _ (List.mem_append_right _ (List.mem_append_right _ (List.mem_append_left _ (List.mem_of_getElem? (i := 34) rfl)))))
    | 1, _ => exact h _ (List.mem_append_right _ (List.mem_append_right _ (List.mem_append_right _ (List.mem_append_left _ (List.mem_of_getElem? (i := 35) rfl)))))
    | 2, _ => exact h _ (List.mem_append_right _ (List.mem_append_right _ (List.mem_append_right _ (List.mem_append_left _ (List.mem_of_getElem? (i := 36) rfl)))))
    | 3, _ => exact h _ (List.mem_append_right _ (List.mem_append_right _ (List.mem_append_right _ (List.mem_append_left _ (List.mem_of_getElem? (i := 37) rfl)))))
    | j + 4, h => exact absurd h (by show ¬ j + 4 < 4; omega))
  | 7, _ => exact (by
    intro j hj
    match j, hj with

    | j + 0, h => exact absurd h (by show ¬ j + 0 < 0; omega))
  | 8, _ => exact (by
    intro j hj
    match j, hj with
    | 0, _ => exact h _ (List.mem_append_right _ (List.mem_append_right _ (List.mem_append_right _ (List.mem_append_left _ (List.mem_of_getElem? (i := 57) rfl)))))
    | j + 1, h => exact absurd h (by show ¬ j + 1 < 1; omega))
  | 9, _ => exact (by
    intro j hj
    match j, hj with
    | 0, _ => exact h _ (List.mem_append_right _ (List.mem_append_right _ (List.mem_append_right _ (List.mem_append_right _ (List.mem_append_left _ (List.mem_of_getElem? (i := 44) rfl))))))
    | j + 1, h => exact absurd h (by show ¬ j + 1 < 1; omega))
  | 10, _ => exact (by
    intro j hj
    match j, hj with
    | 0, _ => exact h _ (List.mem_append_right _ (List.mem_append_right _ (List.mem_append_right _ (List.mem_append_right _ (List.mem_append_left _ (List.mem_of_getElem? (i := 9) rfl))))))
    | 1, _ => exact h _ (List.mem_append_right _ (List.mem_append_right _ (List.mem_append_right _ (List.mem_append_right _ (List.mem_append_left _ (List.mem_of_getElem? (i := 10) rfl))))))
    | 2, _ => exact h _ (List.mem_append_right _ (List.mem_append_right _ (List.mem_append_right _ (List.mem_append_right _ (List.mem_append_left _ (List.mem_of_getElem? (i := 11) rfl))))))
    | 3, _ => exact h _ (List.mem_append_right _ (List.mem_append_right _ (List.mem_append_right _ (List.mem_append_right _ (List.mem_append_left _ (List.mem_of_getElem? (i := 12) rfl))))))
    | 4, _ => exact h _ (List.mem_append_right _ (List.mem_append_right _ (List.mem_append_right _ (List.mem_append_right _ (List.mem_append_left _ (List.mem_of_getElem? (i := 13) rfl))))))
    | 5, _ => exact h _ (List.mem_append_right _ (List.mem_append_right _ (List.mem_append_right _ (List.mem_append_right _ (List.mem_append_left _ (List.mem_of_getElem? (i := 14) rfl))))))
    | 6, _ => exact h _ (List.mem_append_right _ (List.mem_append_right _ (List.mem_append_right _ (List.mem_append_right _ (List.mem_append_left _ (List.mem_of_getElem? (i := 15) rfl))))))
    | j + 7, h => exact absurd h (by show ¬ j + 7 < 7; omega))
  | 11, _ => exact (by
    intro j hj
    match j, hj with
    | 0, _ => exact h _ (List.mem_append_right _ (List.mem_append_right _ (List.mem_append_right _ (List.mem_append_right _ (List.mem_append_left _ (List.mem_of_getElem? (i := 28) rfl))))))
    | 1, _ => exact h _ (List.mem_append_right _ (List.mem_append_right _ (List.mem_append_right _ (List.mem_append_right _ (List.mem_append_left _ (List.mem_of_getElem? (i := 29) rfl))))))
    | 2, _ => exact h _ (List.mem_append_right _ (List.mem_append_right _ (List.mem_append_right _ (List.mem_append_right _ (List.mem_append_left _ (List.mem_of_getElem? (i := 30) rfl))))))
    | j + 3, h => exact absurd h (by show ¬ j + 3 < 3; omega))
  | i + 12, h => exact absurd h (by omega)
theorem mm_s6 {args : Array Value} {s : State} (h : ∀ w ∈ mm_nl, w.before args s = true) : ∀ i : Nat, i < 12 → ∀ j : Nat, j < 12 → i ≠ j → (Cond.not (Cond.eq (Term.string "PennyMore$Reader" (mm_sx i).1) (Term.string "PennyMore$Reader" (mm_sx j).1))).before args s = true ∨ (Cond.not (Cond.eq (Term.string "PennyMore$Reader" (mm_sx j).1) (Term.string "PennyMore$Reader" (mm_sx i).1))).before args s = true := by
  intro i hi
  match i, hi with
  | 0, _ => exact (by
    intro j hj hne
    match j, hj, hne with
    | 0, _, hne => exact absurd rfl hne
    | 1, _, _ => exact Or.inr (h _ (List.mem_append_right _ (List.mem_append_right _ (List.mem_append_right _ (List.mem_append_right _ (List.mem_append_right _ (List.mem_of_getElem? (i := 0) rfl)))))))
    | 2, _, _ => exact Or.inr (h _ (List.mem_append_right _ (List.mem_append_right _ (List.mem_append_right _ (List.mem_append_right _ (List.mem_append_right _ (List.mem_of_getElem? (i := 1) rfl)))))))
    | 3, _, _ => exact Or.inr (h _ (List.mem_append_right _ (List.mem_append_right _ (List.mem_append_right _ (List.mem_append_right _ (List.mem_append_right _ (List.mem_of_getElem? (i := 2) rfl)))))))
    | 4, _, _ => exact Or.inr (h _ (List.mem_append_right _ (List.mem_append_right _ (List.mem_append_right _ (List.mem_append_right _ (List.mem_append_right _ (List.mem_of_getElem? (i := 3) rfl)))))))
    | 5, _, _ => exact Or.inr (h _ (List.mem_append_right _ (List.mem_append_right _ (List.mem_append_right _ (List.mem_append_right _ (List.mem_append_right _ (List.mem_of_getElem? (i := 4) rfl)))))))
    | 6, _, _ => exact Or.inr (h _ (List.mem_append_right _ (List.mem_append_right _ (List.mem_append_right _ (List.mem_append_right _ (List.mem_append_right _ (List.mem_of_getElem? (i := 5) rfl)))))))
    | 7, _, _ => exact Or.inr (h _ (List.mem_append_right _ (List.mem_append_right _ (List.mem_append_right _ (List.mem_append_right _ (List.mem_append_right _ (List.mem_of_getElem? (i := 6) rfl)))))))
    | 8, _, _ => exact Or.inr (h _ (List.mem_append_right _ (List.mem_append_right _ (List.mem_append_right _ (List.mem_append_right _ (List.mem_append_right _ (List.mem_of_getElem? (i := 7) rfl)))))))
    | 9, _, _ => exact Or.inr (h _ (List.mem_append_right _ (List.mem_append_right _ (List.mem_append_right _ (List.mem_append_right _ (List.mem_append_right _ (List.mem_of_getElem? (i := 10) rfl)))))))
    | 10, _, _ => exact Or.inr (h _ (List.mem_append_right _ (List.mem_append_right _ (List.mem_append_right _ (List.mem_append_right _ (List.mem_append_right _ (List.mem_of_getElem? (i := 8) rfl)))))))
    | 11, _, _ => exact Or.inr (h _ (List.mem_append_right _ (List.mem_append_right _ (List.mem_append_right _ (List.mem_append_right _ (List.mem_append_right _ (List.mem_of_getElem? (i := 9) rfl)))))))
    | j + 12, h, _ => exact absurd h (by omega))
  | 1, _ => exact (by
    intro j hj hne
    match j, hj, hne with
    | 0, _, _ => exact Or.inl (h _ (List.mem_append_right _ (List.mem_append_right _ (List.mem_append_right _ (List.mem_append_right _ (List.mem_append_right _ (List.mem_of_getElem? (i := 0) rfl)))))))
    | 1, _, hne => exact absurd rfl hne
    | 2, _, _ => exact Or.inl (h _ (List.mem_append_right _ (List.mem_append_right _ (List.mem_append_left _ (List.mem_of_getElem? (i := 55) rfl)))))
    | 3, _, _ => exact Or.inl (h _ (List.mem_append_right _ (List.mem_append_right _ (List.mem_append_right _ (List.mem_append_left _ (List.mem_of_getElem? (i := 3) rfl))))))
    | 4, _, _ => exact Or.inl (h _ (List.mem_append_right _ (List.mem_append_right _ (List.mem_append_right _ (List.mem_append_left _ (List.mem_of_getElem? (i := 14) rfl))))))
    | 5, _, _ => exact Or.inl (h _ (List.mem_append_right _ (List.mem_append_right _ (List.mem_append_right _ (List.mem_append_left _ (List.mem_of_getElem? (i := 26) rfl))))))
    | 6, _, _ => exact Or.inl (h _ (List.mem_append_right _ (List.mem_append_right _ (List.mem_append_right _ (List.mem_append_left _ (List.mem_of_getElem? (i := 38) rfl))))))
    | 7, _, _ => exact Or.inl (h _ (List.mem_append_right _ (List.mem_append_right _ (List.mem_append_right _ (List.mem_append_left _ (List.mem_of_getElem? (i := 47) rfl))))))
    | 8, _, _ => exact Or.inl (h _ (List.mem_append_right _ (List.mem_append_right _ (List.mem_append_right _ (List.mem_append_left _ (List.mem_of_getElem? (i := 58) rfl))))))
    | 9, _, _ => exact Or.inl (h _ (List.mem_append_right _ (List.mem_append_right _ (List.mem_append_right _ (List.mem_append_right _ (List.mem_append_left _ (List.mem_of_getElem? (i := 45) rfl)))))))
    | 10, _, _ => exact Or.inl (h _ (List.mem_append_right _ (List.mem_append_right _ (List.mem_append_right _ (List.mem_append_right _ (List.mem_append_left _ (List.mem_of_getElem? (i := 16) rfl)))))))
    | 11, _, _ => exact Or.inl (h _ (List.mem_append_right _ (List.mem_append_right _ (List.mem_append_right _ (List.mem_append_right _ (List.mem_append_left _ (List.mem_of_getElem? (i := 31) rfl)))))))
    | j + 12, h, _ => exact absurd h (by omega))
  | 2, _ => exact (by
    intro j hj hne
    match j, hj, hne with
    | 0, _, _ => exact Or.inl (h _ (List.mem_append_right _ (List.mem_append_right _ (List.mem_append_right _ (List.mem_append_right _ (List.mem_append_right _ (List.mem_of_getElem? (i := 1) rfl)))))))
    | 1, _, _ => exact Or.inr (h _ (List.mem_append_right _ (List.mem_append_right _ (List.mem_append_left _ (List.mem_of_getElem? (i := 55) rfl)))))
    | 2, _, hne => exact absurd rfl hne
    | 3, _, _ => exact Or.inl (h _ (List.mem_append_right _ (List.mem_append_right _ (List.mem_append_right _ (List.mem_append_left _ (List.mem_of_getElem? (i := 4) rfl))))))
    | 4, _, _ => exact Or.inl (h _ (List.mem_append_right _ (List.mem_append_right _ (List.mem_append_right _ (List.mem_append_left _ (List.mem_of_getElem? (i := 15) rfl))))))
    | 5, _, _ => exact Or.inl (h _ (List.mem_append_right _ (List.mem_append_right _ (List.mem_append_right _ (List.mem_append_left _ (List.mem_of_getElem? (i := 27) rfl))))))
    | 6, _, _ => exact Or.inl (h _ (List.mem_append_right _ (List.mem_append_right _ (List.mem_append_right _ (List.mem_append_left _ (List.mem_of_getElem? (i := 39) rfl))))))
    | 7, _, _ => exact Or.inl (h _ (List.mem_append_right _ (List.mem_append_right _ (List.mem_append_right _ (List.mem_append_left _ (List.mem_of_getElem? (i := 48) rfl))))))
    | 8, _, _ => exact Or.inl (h _ (List.mem_append_right _ (List.mem_append_right _ (List.mem_append_right _ (List.mem_append_left _ (List.mem_of_getElem? (i := 59) rfl))))))
    | 9, _, _ => exact Or.inl (h _ (List.mem_append_right _ (List.mem_append_right _ (List.mem_append_right _ (List.mem_append_right _ (List.mem_append_left _ (List.mem_of_getElem? (i := 46) rfl)))))))
    | 10, _, _ => exact Or.inl (h _ (List.mem_append_right _ (List.mem_append_right _ (List.mem_append_right _ (List.mem_append_right _ (List.mem_append_left _ (List.mem_of_getElem? (i := 17) rfl)))))))
    | 11, _, _ => exact Or.inl (h _ (List.mem_append_right _ (List.mem_append_right _ (List.mem_append_right _ (List.mem_append_right _ (List.mem_append_left _ (List.mem_of_getElem? (i := 32) rfl)))))))
    | j + 12, h, _ => exact absurd h (by omega))
  | 3, _ => exact (by
    intro j hj hne
    match j, hj, hne with
    | 0, _, _ => exact Or.inl (h _ (List.mem_append_right _ (List.mem_append_right _ (List.mem_append_right _ (List.mem_append_right _ (List.mem_append_right _ (List.mem_of_getElem? (i := 2) rfl)))))))
    | 1, _, _ => exact Or.inr (h _ (List.mem_append_right _ (List.mem_append_right _ (List.mem_append_right _ (List.mem_append_left _ (List.mem_of_getElem? (i := 3) rfl))))))
    | 2, _, _ => exact Or.inr (h _ (List.mem_append_right _ (List.mem_append_right _ (List.mem_append_right _ (List.mem_append_left _ (List.mem_of_getElem? (i := 4) rfl))))))
    | 3, _, hne => exact absurd rfl hne
    | 4, _, _ => exact Or.inl (h _ (List.mem_append_right _ (List.mem_append_right _ (List.mem_append_right _ (List.mem_append_left _ (List.mem_of_getElem? (i := 16) rfl))))))
    | 5, _, _ => exact Or.inl (h _ (List.mem_append_right _ (List.mem_append_right _ (List.mem_append_right _ (List.mem_append_left _ (List.mem_of_getElem? (i := 28) rfl))))))
    | 6, _, _ => exact Or.inl (h _ (List.mem_append_right _ (List.mem_append_right _ (List.mem_append_right _ (List.mem_append_left _ (List.mem_of_getElem? (i := 40) rfl))))))
    | 7, _, _ => exact Or.inl (h _ (List.mem_append_right _ (List.mem_append_right _ (List.mem_append_right _ (List.mem_append_left _ (List.mem_of_getElem? (i := 49) rfl))))))
    | 8, _, _ => exact Or.inl (h _ (List.mem_append_right _ (List.mem_append_right _ (List.mem_append_right _ (List.mem_append_right _ (List.mem_append_left _ (List.mem_of_getElem? (i := 0) rfl)))))))
    | 9, _, _ => exact Or.inl (h _ (List.mem_append_right _ (List.mem_append_right _ (List.mem_append_right _ (List.mem_append_right _ (List.mem_append_left _ (List.mem_of_getElem? (i := 47) rfl)))))))
    | 10, _, _ => exact Or.inl (h _ (List.mem_append_right _ (List.mem_append_right _ (List.mem_append_right _ (List.mem_append_right _ (List.mem_append_left _ (List.mem_of_getElem? (i := 18) rfl)))))))
    | 11, _, _ => exact Or.inl (h _ (List.mem_append_right _ (List.mem_append_right _ (List.mem_append_right _ (List.mem_append_right _ (List.mem_append_left _ (List.mem_of_getElem? (i := 33) rfl)))))))
    | j + 12, h, _ => exact absurd h (by omega))
  | 4, _ => exact (by
    intro j hj hne
    match j, hj, hne with
    | 0, _, _ => exact Or.inl (h _ (List.mem_append_right _ (List.mem_append_right _ (List.mem_append_right _ (List.mem_append_right _ (List.mem_append_right _ (List.mem_of_getElem? (i := 3) rfl)))))))
    | 1, _, _ => exact Or.inr (h _ (List.mem_append_right _ (List.mem_append_right _ (List.mem_append_right _ (List.mem_append_left _ (List.mem_of_getElem? (i := 14) rfl))))))
    | 2, _, _ => exact Or.inr (h _ (List.mem_append_right _ (List.mem_append_right _ (List.mem_append_right _ (List.mem_append_left _ (List.mem_of_getElem? (i := 15) rfl))))))
    | 3, _, _ => exact Or.inr (h _ (List.mem_append_right _ (List.mem_append_right _ (List.mem_append_right _ (List.mem_append_left _ (List.mem_of_getElem? (i := 16) rfl))))))
    | 4, _, hne => exact absurd rfl hne
    | 5, _, _ => exact Or.inl (h _ (List.mem_append_right _ (List.mem_append_right _ (List.mem_append_right _ (List.mem_append_left _ (List.mem_of_getElem? (i := 29) rfl))))))
    | 6, _, _ => exact Or.inl (h _ (List.mem_append_right _ (List.mem_append_right _ (List.mem_append_right _ (List.mem_append_left _ (List.mem_of_getElem? (i := 41) rfl))))))
    | 7, _, _ => exact Or.inl (h _ (List.mem_append_right _ (List.mem_append_right _ (List.mem_append_right _ (List.mem_append_left _ (List.mem_of_getElem? (i := 50) rfl))))))
    | 8, _, _ => exact Or.inl (h _ (List.mem_append_right _ (List.mem_append_right _ (List.mem_append_right _ (List.mem_append_right _ (List.mem_append_left _ (List.mem_of_getElem? (i := 1) rfl)))))))
    | 9, _, _ => exact Or.inl (h _ (List.mem_append_right _ (List.mem_append_right _ (List.mem_append_right _ (List.mem_append_right _ (List.mem_append_left _ (List.mem_of_getElem? (i := 48) rfl)))))))
    | 10, _, _ => exact Or.inl (h _ (List.mem_append_right _ (List.mem_append_right _ (List.mem_append_right _ (List.mem_append_right _ (List.mem_append_left _ (List.mem_of_getElem? (i := 19) rfl)))))))
    | 11, _, _ => exact Or.inl (h _ (List.mem_append_right _ (List.mem_append_right _ (List.mem_append_right _ (List.mem_append_right _ (List.mem_append_left _ (List.mem_of_getElem? (i := 34) rfl)))))))
    | j + 12, h, _ => exact absurd h (by omega))
  | 5, _ => exact (by
    intro j hj hne
    match j, hj, hne with
    | 0, _, _ => exact Or.inl (h _ (List.mem_append_right _ (List.mem_append_right _ (List.mem_append_right _ (List.mem_append_right _ (List.mem_append_right _ (List.mem_of_getElem? (i := 4) rfl)))))))
    | 1, _, _ => exact Or.inr (h _ (List.mem_append_right _ (List.mem_append_right _ (List.mem_append_right _ (List.mem_append_left _ (List.mem_of_getElem? (i := 26) rfl))))))
    | 2, _, _ => exact Or.inr (h _ (List.mem_append_right _ (List.mem_append_right _ (List.mem_append_right _ (List.mem_append_left _ (List.mem_of_getElem? (i := 27) rfl))))))
    | 3, _, _ => exact Or.inr (h _ (List.mem_append_right _ (List.mem_append_right _ (List.mem_append_right _ (List.mem_append_left _ (List.mem_of_getElem? (i := 28) rfl))))))
    | 4, _, _ => exact Or.inr (h _ (List.mem_append_right _ (List.mem_append_right _ (List.mem_append_right _ (List.mem_append_left _ (List.mem_of_getElem? (i := 29) rfl))))))
    | 5, _, hne => exact absurd rfl hne
    | 6, _, _ => exact Or.inl (h _ (List.mem_append_right _ (List.mem_append_right _ (List.mem_append_right _ (List.mem_append_left _ (List.mem_of_getElem? (i := 42) rfl))))))
    | 7, _, _ => exact Or.inl (h _ (List.mem_append_right _ (List.mem_append_right _ (List.mem_append_right _ (List.mem_append_left _ (List.mem_of_getElem? (i := 51) rfl))))))
    | 8, _, _ => exact Or.inl (h _ (List.mem_append_right _ (List.mem_append_right _ (List.mem_append_right _ (List.mem_append_right _ (List.mem_append_left _ (List.mem_of_getElem? (i := 2) rfl)))))))
    | 9, _, _ => exact Or.inl (h _ (List.mem_append_right _ (List.mem_append_right _ (List.mem_append_right _ (List.mem_append_right _ (List.mem_append_left _ (List.mem_of_getElem? (i := 49) rfl)))))))
    | 10, _, _ => exact Or.inl (h _ (List.mem_append_right _ (List.mem_append_right _ (List.mem_append_right _ (List.mem_append_right _ (List.mem_append_left _ (List.mem_of_getElem? (i := 20) rfl)))))))
    | 11, _, _ => exact Or.inl (h _ (List.mem_append_right _ (List.mem_append_right _ (List.mem_append_right _ (List.mem_append_right _ (List.mem_append_left _ (List.mem_of_getElem? (i := 35) rfl)))))))
    | j + 12, h, _ => exact absurd h (by omega))
  | 6, _ => exact (by
    intro j hj hne
    match j, hj, hne with
    | 0, _, _ => exact Or.inl (h _ (List.mem_append_right _ (List.mem_append_right _ (List.mem_append_right _ (List.mem_append_right _ (List.mem_append_right _ (List.mem_of_getElem? (i := 5) rfl)))))))
    | 1, _, _ => exact Or.inr (h _ (List.mem_append_right _ (List.mem_append_right _ (List.mem_append_right _ (List.mem_append_left _ (List.mem_of_getElem? (i := 38) rfl))))))
    | 2, _, _ => exact Or.inr (h _ (List.mem_append_right _ (List.mem_append_right _ (List.mem_append_right _ (List.mem_append_left _ (List.mem_of_getElem? (i := 39) rfl))))))
    | 3, _, _ => exact Or.inr (h _ (List.mem_append_right _ (List.mem_append_right _ (List.mem_append_right _ (List.mem_append_left _ (List.mem_of_getElem? (i := 40) rfl))))))
    | 4, _, _ => exact Or.inr (h _ (List.mem_append_right _ (List.mem_append_right _ (List.mem_append_right _ (List.mem_append_left _ (List.mem_of_getElem? (i := 41) rfl))))))
    | 5, _, _ => exact Or.inr (h _ (List.mem_append_right _ (List.mem_append_right _ (List.mem_append_right _ (List.mem_append_left _ (List.mem_of_getElem? (i := 42) rfl))))))
    | 6, _, hne => exact absurd rfl hne
    | 7, _, _ => exact Or.inl (h _ (List.mem_append_right _ (List.mem_append_right _ (List.mem_append_right _ (List.mem_append_left _ (List.mem_of_getElem? (i := 52) rfl))))))
    | 8, _, _ => exact Or.inl (h _ (List.mem_append_right _ (List.mem_append_right _ (List.mem_append_right _ (List.mem_append_right _ (List.mem_append_left _ (List.mem_of_getElem? (i := 3) rfl)))))))
    | 9, _, _ => exact Or.inl (h _ (List.mem_append_right _ (List.mem_append_right _ (List.mem_append_right _ (List.mem_append_right _ (List.mem_append_left _ (List.mem_of_getElem? (i := 50) rfl)))))))
    | 10, _, _ => exact Or.inl (h _ (List.mem_append_right _ (List.mem_append_right _ (List.mem_append_right _ (List.mem_append_right _ (List.mem_append_left _ (List.mem_of_getElem? (i := 21) rfl)))))))
    | 11, _, _ => exact Or.inl (h _ (List.mem_append_right _ (List.mem_append_right _ (List.mem_append_right _ (List.mem_append_right _ (List.mem_append_left _ (List.mem_of_getElem? (i := 36) rfl)))))))
    | j + 12, h, _ => exact absurd h (by omega))
  | 7, _ => exact (by
    intro j hj hne
    match j, hj, hne with
    | 0, _, _ => exact Or.inl (h _ (List.mem_append_right _ (List.mem_append_right _ (List.mem_append_right _ (List.mem_append_right _ (List.mem_append_right _ (List.mem_of_getElem? (i := 6) rfl)))))))
    | 1, _, _ => exact Or.inr (h _ (List.mem_append_right _ (List.mem_append_right _ (List.mem_append_right _ (List.mem_append_left _ (List.mem_of_getElem? (i := 47) rfl))))))
    | 2, _, _ => exact Or.inr (h _ (List.mem_append_right _ (List.mem_append_right _ (List.mem_append_right _ (List.mem_append_left _ (List.mem_of_getElem? (i := 48) rfl))))))
    | 3, _, _ => exact Or.inr (h _ (List.mem_append_right _ (List.mem_append_right _ (List.mem_append_right _ (List.mem_append_left _ (List.mem_of_getElem? (i := 49) rfl))))))
    | 4, _, _ => exact Or.inr (h _ (List.mem_append_right _ (List.mem_append_right _ (List.mem_append_right _ (List.mem_append_left _ (List.mem_of_getElem? (i := 50) rfl))))))
    | 5, _, _ => exact Or.inr (h _ (List.mem_append_right _ (List.mem_append_right _ (List.mem_append_right _ (List.mem_append_left _ (List.mem_of_getElem? (i := 51) rfl))))))
    | 6, _, _ => exact Or.inr (h _ (List.mem_append_right _ (List.mem_append_right _ (List.mem_append_right _ (List.mem_append_left _ (List.mem_of_getElem? (i := 52) rfl))))))
    | 7, _, hne => exact absurd rfl hne
    | 8, _, _ => exact Or.inl (h _ (List.mem_append_right _ (List.mem_append_right _ (List.mem_append_right _ (List.mem_append_right _ (List.mem_append_left _ (List.mem_of_getElem? (i := 4) rfl)))))))
    | 9, _, _ => exact Or.inl (h _ (List.mem_append_right _ (List.mem_append_right _ (List.mem_append_right _ (List.mem_append_right _ (List.mem_append_left _ (List.mem_of_getElem? (i := 51) rfl)))))))
    | 10, _, _ => exact Or.inl (h _ (List.mem_append_right _ (List.mem_append_right _ (List.mem_append_right _ (List.mem_append_right _ (List.mem_append_left _ (List.mem_of_getElem? (i := 22) rfl)))))))
    | 11, _, _ => exact Or.inl (h _ (List.mem_append_right _ (List.mem_append_right _ (List.mem_append_right _ (List.mem_append_right _ (List.mem_append_left _ (List.mem_of_getElem? (i := 37) rfl)))))))
    | j + 12, h, _ => exact absurd h (by omega))
  | 8, _ => exact (by
    intro j hj hne
    match j, hj, hne with
    | 0, _, _ => exact Or.inl (h _ (List.mem_append_right _ (List.mem_append_right _ (List.mem_append_right _ (List.mem_append_right _ (List.mem_append_right _ (List.mem_of_getElem? (i := 7) rfl)))))))
    | 1, _, _ => exact Or.inr (h _ (List.mem_append_right _ (List.mem_append_right _ (List.mem_append_right _ (List.mem_append_left _ (List.mem_of_getElem? (i := 58) rfl))))))
    | 2, _, _ => exact Or.inr (h _ (List.mem_append_right _ (List.mem_append_right _ (List.mem_append_right _ (List.mem_append_left _ (List.mem_of_getElem? (i := 59) rfl))))))
    | 3, _, _ => exact Or.inr (h _ (List.mem_append_right _ (List.mem_append_right _ (List.mem_append_right _ (List.mem_append_right _ (List.mem_append_left _ (List.mem_of_getElem? (i := 0) rfl)))))))
    | 4, _, _ => exact Or.inr (h _ (List.mem_append_right _ (List.mem_append_right _ (List.mem_append_right _ (List.mem_append_right _ (List.mem_append_left _ (List.mem_of_getElem? (i := 1) rfl)))))))
    | 5, _, _ => exact Or.inr (h _ (List.mem_append_right _ (List.mem_append_right _ (List.mem_append_right _ (List.mem_append_right _ (List.mem_append_left _ (List.mem_of_getElem? (i := 2) rfl)))))))
    | 6, _, _ => exact Or.inr (h _ (List.mem_append_right _ (List.mem_append_right _ (List.mem_append_right _ (List.mem_append_right _ (List.mem_append_left _ (List.mem_of_getElem? (i := 3) rfl)))))))
    | 7, _, _ => exact Or.inr (h _ (List.mem_append_right _ (List.mem_append_right _ (List.mem_append_right _ (List.mem_append_right _ (List.mem_append_left _ (List.mem_of_getElem? (i := 4) rfl)))))))
    | 8, _, hne => exact absurd rfl hne
    | 9, _, _ => exact Or.inl (h _ (List.mem_append_right _ (List.mem_append_right _ (List.mem_append_right _ (List.mem_append_right _ (List.mem_append_left _ (List.mem_of_getElem? (i := 52) rfl)))))))
    | 10, _, _ => exact Or.inl (h _ (List.mem_append_right _ (List.mem_append_right _ (List.mem_append_right _ (List.mem_append_right _ (List.mem_append_left _ (List.mem_of_getElem? (i := 23) rfl)))))))
    | 11, _, _ => exact Or.inl (h _ (List.mem_append_right _ (List.mem_append_right _ (List.mem_append_right _ (List.mem_append_right _ (List.mem_append_left _ (List.mem_of_getElem? (i := 38) rfl)))))))
    | j + 12, h, _ => exact absurd h (by omega))
  | 9, _ => exact (by
    intro j hj hne
    match j, hj, hne with
    | 0, _, _ => exact Or.inl (h _ (List.mem_append_right _ (List.mem_append_right _ (List.mem_append_right _ (List.mem_append_right _ (List.mem_append_right _ (List.mem_of_getElem? (i := 10) rfl)))))))
    | 1, _, _ => exact Or.inr (h _ (List.mem_append_right _ (List.mem_append_right _ (List.mem_append_right _ (List.mem_append_right _ (List.mem_append_left _ (List.mem_of_getElem? (i := 45) rfl)))))))
    | 2, _, _ => exact Or.inr (h _ (List.mem_append_right _ (List.mem_append_right _ (List.mem_append_right _ (List.mem_append_right _ (List.mem_append_left _ (List.mem_of_getElem? (i := 46) rfl)))))))
    | 3, _, _ => exact Or.inr (h _ (List.mem_append_right _ (List.mem_append_right _ (List.mem_append_right _ (List.mem_append_right _ (List.mem_append_left _ (List.mem_of_getElem? (i := 47) rfl)))))))
    | 4, _, _ => exact Or.inr (h _ (List.mem_append_right _ (List.mem_append_right _ (List.mem_append_right _ (List.mem_append_right _ (List.mem_append_left _ (List.mem_of_getElem? (i := 48) rfl)))))))
    | 5, _, _ => exact Or.inr (h _ (List.mem_append_right _ (List.mem_append_right _ (List.mem_append_right _ (List.mem_append_right _ (List.mem_append_left _ (List.mem_of_getElem? (i := 49) rfl)))))))
    | 6, _, _ => exact Or.inr (h _ (List.mem_append_right _ (List.mem_append_right _ (List.mem_append_right _ (List.mem_append_right _ (List.mem_append_left _ (List.mem_of_getElem? (i := 50) rfl)))))))
    | 7, _, _ => exact Or.inr (h _ (List.mem_append_right _ (List.mem_append_right _ (List.mem_append_right _ (List.mem_append_right _ (List.mem_append_left _ (List.mem_of_getElem? (i := 51) rfl)))))))
    | 8, _, _ => exact Or.inr (h _ (List.mem_append_right _ (List.mem_append_right _ (List.mem_append_right _ (List.mem_append_right _ (List.mem_append_left _ (List.mem_of_getElem? (i := 52) rfl)))))))
    | 9, _, hne => exact absurd rfl hne
    | 10, _, _ => exact Or.inr (h _ (List.mem_append_right _ (List.mem_append_right _ (List.mem_append_right _ (List.mem_append_right _ (List.mem_append_left _ (List.mem_of_getElem? (i := 53) rfl)))))))
    | 11, _, _ => exact Or.inr (h _ (List.mem_append_right _ (List.mem_append_right _ (List.mem_append_right _ (List.mem_append_right _ (List.mem_append_left _ (List.mem_of_getElem? (i := 54) rfl)))))))
    | j + 12, h, _ => exact absurd h (by omega))
  | 10, _ => exact (by
    intro j hj hne
    match j, hj, hne with
    | 0, _, _ => exact Or.inl (h _ (List.mem_append_right _ (List.mem_append_right _ (List.mem_append_right _ (List.mem_append_right _ (List.mem_append_right _ (List.mem_of_getElem? (i := 8) rfl)))))))
    | 1, _, _ => exact Or.inr (h _ (List.mem_append_right _ (List.mem_append_right _ (List.mem_append_right _ (List.mem_append_right _ (List.mem_append_left _ (List.mem_of_getElem? (i := 16) rfl)))))))
    | 2, _, _ => exact Or.inr (h _ (List.mem_append_right _ (List.mem_append_right _ (List.mem_append_right _ (List.mem_append_right _ (List.mem_append_left _ (List.mem_of_getElem? (i := 17) rfl)))))))
    | 3, _, _ => exact Or.inr (h _ (List.mem_append_right _ (List.mem_append_right _ (List.mem_append_right _ (List.mem_append_right _ (List.mem_append_left _ (List.mem_of_getElem? (i := 18) rfl)))))))
    | 4, _, _ => exact Or.inr (h _ (List.mem_append_right _ (List.mem_append_right _ (List.mem_append_right _ (List.mem_append_right _ (List.mem_append_left _ (List.mem_of_getElem? (i := 19) rfl)))))))
    | 5, _, _ => exact Or.inr (h _ (List.mem_append_right _ (List.mem_append_right _ (List.mem_append_right _ (List.mem_append_right _ (List.mem_append_left _ (List.mem_of_getElem? (i := 20) rfl)))))))
    | 6, _, _ => exact Or.inr (h _ (List.mem_append_right _ (List.mem_append_right _ (List.mem_append_right _ (List.mem_append_right _ (List.mem_append_left _ (List.mem_of_getElem? (i := 21) rfl)))))))
    | 7, _, _ => exact Or.inr (h _ (List.mem_append_right _ (List.mem_append_right _ (List.mem_append_right _ (List.mem_append_right _ (List.mem_append_left _ (List.mem_of_getElem? (i := 22) rfl)))))))
    | 8, _, _ => exact Or.inr (h _ (List.mem_append_right _ (List.mem_append_right _ (List.mem_append_right _ (List.mem_append_right _ (List.mem_append_left _ (List.mem_of_getElem? (i := 23) rfl)))))))
    | 9, _, _ => exact Or.inl (h _ (List.mem_append_right _ (List.mem_append_right _ (List.mem_append_right _ (List.mem_append_right _ (List.mem_append_left _ (List.mem_of_getElem? (i := 53) rfl)))))))
    | 10, _, hne => exact absurd rfl hne
    | 11, _, _ => exact Or.inl (h _ (List.mem_append_right _ (List.mem_append_right _ (List.mem_append_right _ (List.mem_append_right _ (List.mem_append_left _ (List.mem_of_getElem? (i := 39) rfl)))))))
    | j + 12, h, _ => exact absurd h (by omega))
  | 11, _ => exact (by
    intro j hj hne
    match j, hj, hne with
    | 0, _, _ => exact Or.inl (h _ (List.mem_append_right _ (List.mem_append_right _ (List.mem_append_right _ (List.mem_append_right _ (List.mem_append_right _ (List.mem_of_getElem? (i := 9) rfl)))))))
    | 1, _, _ => exact Or.inr (h _ (List.mem_append_right _ (List.mem_append_right _ (List.mem_append_right _ (List.mem_append_right _ (List.mem_append_left _ (List.mem_of_getElem? (i := 31) rfl)))))))
    | 2, _, _ => exact Or.inr (h _ (List.mem_append_right _ (List.mem_append_right _ (List.mem_append_right _ (List.mem_append_right _ (List.mem_append_left _ (List.mem_of_getElem? (i := 32) rfl)))))))
    | 3, _, _ => exact Or.inr (h _ (List.mem_append_right _ (List.mem_append_right _ (List.mem_append_right _ (List.mem_append_right _ (List.mem_append_left _ (List.mem_of_getElem? (i := 33) rfl)))))))
    | 4, _, _ => exact Or.inr (h _ (List.mem_append_right _ (List.mem_append_right _ (List.mem_append_right _ (List.mem_append_right _ (List.mem_append_left _ (List.mem_of_getElem? (i := 34) rfl)))))))
    | 5, _, _ => exact Or.inr (h _ (List.mem_append_right _ (List.mem_append_right _ (List.mem_append_right _ (List.mem_append_right _ (List.mem_append_left _ (List.mem_of_getElem? (i := 35) rfl)))))))
    | 6, _, _ => exact Or.inr (h _ (List.mem_append_right _ (List.mem_append_right _ (List.mem_append_right _ (List.mem_append_right _ (List.mem_append_left _ (List.mem_of_getElem? (i := 36) rfl)))))))
    | 7, _, _ => exact Or.inr (h _ (List.mem_append_right _ (List.mem_append_right _ (List.mem_append_right _ (List.mem_append_right _ (List.mem_append_left _ (List.mem_of_getElem? (i := 37) rfl)))))))
    | 8, _, _ => exact Or.inr (h _ (List.mem_append_right _ (List.mem_append_right _ (List.mem_append_right _ (List.mem_append_right _ (List.mem_append_left _ (List.mem_of_getElem? (i := 38) rfl)))))))
    | 9, _, _ => exact Or.inl (h _ (List.mem_append_right _ (List.mem_append_right _ (List.mem_append_right _ (List.mem_append_right _ (List.mem_append_left _ (List.mem_of_getElem? (i := 54) rfl)))))))
    | 10, _, _ => exact Or.inr (h _ (List.mem_append_right _ (List.mem_append_right _ (List.mem_append_right _ (List.mem_append_right _ (List.mem_append_left _ (List.mem_of_getElem? (i := 39) rfl)))))))
    | 11, _, hne => exact absurd rfl hne
    | j + 12, h, _ => exact absurd h (by omega))
  | i + 12, h => exact absurd h (by omega)
theorem mm_s7 {args : Array Value} {s : State} (h : ∀ w ∈ mm_nl, w.before args s = true) : ∀ q ∈ mm_NC, va_Nc q.1 q.2 s := List.forall_mem_cons.mpr ⟨va_Nc.of (h _ (List.mem_append_left _ (List.mem_of_getElem? (i := 17) rfl))), List.forall_mem_cons.mpr ⟨va_Nc.of (h _ (List.mem_append_left _ (List.mem_of_getElem? (i := 14) rfl))), List.forall_mem_cons.mpr ⟨va_Nc.of (h _ (List.mem_append_left _ (List.mem_of_getElem? (i := 15) rfl))), List.forall_mem_cons.mpr ⟨va_Nc.of (h _ (List.mem_append_left _ (List.mem_of_getElem? (i := 16) rfl))), List.forall_mem_cons.mpr ⟨va_Nc.of (h _ (List.mem_append_left _ (List.mem_of_getElem? (i := 13) rfl))), List.forall_mem_cons.mpr ⟨va_Nc.of (h _ (List.mem_append_left _ (List.mem_of_getElem? (i := 28) rfl))), List.forall_mem_cons.mpr ⟨va_Nc.of (h _ (List.mem_append_left _ (List.mem_of_getElem? (i := 25) rfl))), List.forall_mem_cons.mpr ⟨va_Nc.of (h _ (List.mem_append_left _ (List.mem_of_getElem? (i := 24) rfl))), List.forall_mem_cons.mpr ⟨va_Nc.of (h _ (List.mem_append_left _ (List.mem_of_getElem? (i := 26) rfl))), List.forall_mem_cons.mpr ⟨va_Nc.of (h _ (List.mem_append_left _ (List.mem_of_getElem? (i := 27) rfl))), List.forall_mem_cons.mpr ⟨va_Nc.of (h _ (List.mem_append_left _ (List.mem_of_getElem? (i := 39) rfl))), List.forall_mem_cons.mpr ⟨va_Nc.of (h _ (List.mem_append_left _ (List.mem_of_getElem? (i := 38) rfl))), List.forall_mem_cons.mpr ⟨va_Nc.of (h _ (List.mem_append_left _ (List.mem_of_getElem? (i := 35) rfl))), List.forall_mem_cons.mpr ⟨va_Nc.of (h _ (List.mem_append_left _ (List.mem_of_getElem? (i := 37) rfl))), List.forall_mem_cons.mpr ⟨va_Nc.of (h _ (List.mem_append_left _ (List.mem_of_getElem? (i := 36) rfl))), List.forall_mem_cons.mpr ⟨va_Nc.of (h _ (List.mem_append_left _ (List.mem_of_getElem? (i := 51) rfl))), List.forall_mem_cons.mpr ⟨va_Nc.of (h _ (List.mem_append_left _ (List.mem_of_getElem? (i := 48) rfl))), List.forall_mem_cons.mpr ⟨va_Nc.of (h _ (List.mem_append_left _ (List.mem_of_getElem? (i := 49) rfl))), List.forall_mem_cons.mpr ⟨va_Nc.of (h _ (List.mem_append_left _ (List.mem_of_getElem? (i := 46) rfl))), List.forall_mem_cons.mpr ⟨va_Nc.of (h _ (List.mem_append_left _ (List.mem_of_getElem? (i := 50) rfl))), List.forall_mem_cons.mpr ⟨va_Nc.of (h _ (List.mem_append_left _ (List.mem_of_getElem? (i := 47) rfl))), List.forall_mem_cons.mpr ⟨va_Nc.of (h _ (List.mem_append_right _ (List.mem_append_left _ (List.mem_of_getElem? (i := 3) rfl)))), List.forall_mem_cons.mpr ⟨va_Nc.of (h _ (List.mem_append_right _ (List.mem_append_left _ (List.mem_of_getElem? (i := 0) rfl)))), List.forall_mem_cons.mpr ⟨va_Nc.of (h _ (List.mem_append_left _ (List.mem_of_getElem? (i := 58) rfl))), List.forall_mem_cons.mpr ⟨va_Nc.of (h _ (List.mem_append_right _ (List.mem_append_left _ (List.mem_of_getElem? (i := 1) rfl)))), List.forall_mem_cons.mpr ⟨va_Nc.of (h _ (List.mem_append_right _ (List.mem_append_left _ (List.mem_of_getElem? (i := 2) rfl)))), List.forall_mem_cons.mpr ⟨va_Nc.of (h _ (List.mem_append_left _ (List.mem_of_getElem? (i := 59) rfl))), List.forall_mem_cons.mpr ⟨va_Nc.of (h _ (List.mem_append_right _ (List.mem_append_left _ (List.mem_of_getElem? (i := 15) rfl)))), List.forall_mem_cons.mpr ⟨va_Nc.of (h _ (List.mem_append_right _ (List.mem_append_left _ (List.mem_of_getElem? (i := 12) rfl)))), List.forall_mem_cons.mpr ⟨va_Nc.of (h _ (List.mem_append_right _ (List.mem_append_left _ (List.mem_of_getElem? (i := 14) rfl)))), List.forall_mem_cons.mpr ⟨va_Nc.of (h _ (List.mem_append_right _ (List.mem_append_left _ (List.mem_of_getElem? (i := 10) rfl)))), List.forall_mem_cons.mpr ⟨va_Nc.of (h _ (List.mem_append_right _ (List.mem_append_left _ (List.mem_of_getElem? (i := 13) rfl)))), List.forall_mem_cons.mpr ⟨va_Nc.of (h _ (List.mem_append_right _ (List.mem_append_left _ (List.mem_of_getElem? (i := 11) rfl)))), fun _ hh => absurd hh List.not_mem_nil⟩⟩⟩⟩⟩⟩⟩⟩⟩⟩⟩⟩⟩⟩⟩⟩⟩⟩⟩⟩⟩⟩⟩⟩⟩⟩⟩⟩⟩⟩⟩⟩⟩
theorem mm_s8 {args : Array Value} {s : State} (h : ∀ w ∈ mm_nl, w.before args s = true) : (Cond.eq (.static "java/lang/String" "COMPACT_STRINGS" "Z") (.int 1)).before args s = true := h _ (List.mem_append_left _ (List.mem_of_getElem? (i := 2) rfl))
theorem mm_s9 {args : Array Value} {s : State} (h : ∀ w ∈ mm_nl, w.before args s = true) : (Cond.isRef (.static "jdk/internal/util/Preconditions" "SIOOBE_FORMATTER" "Ljava/util/function/BiFunction;")).before args s = true := h _ (List.mem_append_left _ (List.mem_of_getElem? (i := 3) rfl))
end
section
/-! THE CLAIM OUT OF ONE WALK OF THE LAW'S BODY. Your part is whole_start (and what it stands on); all else here is the same for every law, but numbers. -/
def R_law : String := "PennyMoreLaw"
def lw_P (b : Addr) (xs : List Int32) (args : Array Value) (s : State) : Prop := args = #[.ref b] ∧ s.IntsAt b xs ∧ xs.length ≤ 3072 ∧ (Jvm.Cond.and given_1 narrow_1).before args s = true
def lw_Q (_ : Array Value) (s : State) (o : Outcome) (t : State) : Prop := o = .returned (some (.int 1)) ∧ Framed s o t [] 600000 7302250
def lw_Z (below : List Frame) (a : Array Value) (s : State) : State → Prop := fun t => ∃ o, t.status = .running ∧ Ended t below o ∧ lw_Q a s o t
/-- the law's own end, with 1 on the stack, nothing written that was there before, its room as the claim has it -/
theorem lw_ret {p : Program} {l : Launch} {e : Env} {s : State} {m : MethodId} {below : List Frame} {meth : Method} {c : Code} {b : Nat} (hx : p.tables.exec = Jvm.exec) (hb : c.code = code) (hr : meth.sig.returnType = ret) (hlocks : meth.locks = false) {pc : Nat} {H : Heap} {ls : Array Slot} (hdg : decode code pc = .ok (.ireturn, 1)) : W p l e room_1 s m #[Value.ref b] below meth c H [] 600000 7302250 (lw_Z below #[Value.ref b] s) (F0 m pc ls [.int 1]) := by
  intro T hT X
  obtain ⟨fs, hret, hrun, hended, hW, hframe⟩ := X.leave (v := some (.int 1)) (hlocks := hlocks) (fun h => by rw [hr] at h; cases h)
  have hmeth' : T.vm.method? m = some meth := X.method'
  refine ⟨T.setFrames fs, ?_, .returned (some (.int 1)), hrun, hended, rfl, ⟨_, rfl⟩, hW, hframe⟩
  jvm_step X.here [X.here.top, hx, hb, hdg, hmeth', hr, ret, narrow_b1]
  (try refine ⟨rfl, ?_⟩); (try refine ⟨rfl, ?_⟩)
  first | (intro acts; rw [hret _ acts rfl rfl rfl]) | rw [hret _ _ rfl rfl rfl]
  exact Steps.refl _
/-- what holds at the law's entry: the machine, the code, the tables' words (any of lw_tbl by 'hts w (by decide +kernel)'), the script of L ints xs at the cell b, what the Statement gives of the start (any of its parts by flat_of_before) -/
def lw_At (p : Program) (s : State) (m : MethodId) (meth : Method) (c : Code) (b L : Nat) (xs : Nat → Int32) : Prop :=
  p.tables.exec = Jvm.exec ∧ c.code = code ∧ meth.sig.returnType = ret ∧ c.maxLocals = 4 ∧ s.vm.findClass R_law = some m.cls ∧ (∀ w ∈ lw_tbl, w.before #[Value.ref b] s = true) ∧ va_X b L xs s s.heap ∧ b < s.heap.size ∧ meth.locks = false ∧ (Jvm.Cond.and given_1 narrow_1).before #[Value.ref b] s = true
/-- the small machine's start: no cell but the script -/
def mm_S0 (L : Nat) (xs : Nat → Int32) : mm_S := (fun a => if a = mm_SC then xs else fun _ => 0, fun _ _ => 0, fun _ _ => none, fun _ => 99, fun a => if a = mm_SC then L else 0, 0, 0)
theorem mm_start (hlaw : ∀ (xs : Nat → Int32) (L : Nat), L ≤ 3072 → ∃ S', mm_ex 30 mm_nc 0 [.ref mm_SC, .null, .null, .null] [] (mm_S0 L xs) = some (some (.int 1), S') ∧ mm_n S' ≤ 600000 ∧ mm_z S' ≤ 7302250) {p : Program} {e : Env} {s : State} {m : MethodId} {below : List Frame} {meth : Method} {c : Code} (l : Launch) {b L : Nat} {xs : Nat → Int32} (hL : L ≤ 3072) (C0 : lw_At p s m meth c b L xs) : W p l e room_1 s m #[Value.ref b] below meth c s.heap [] 0 0 (lw_Z below #[Value.ref b] s) (entryFrame m ([Value.ref b] : List Value).toArray 4) := by
  obtain ⟨hx, hb, hr, hml, hown, hts, hX, hbl, hlocks, hgv⟩ := id C0
  have htsG : ∀ w ∈ mm_G, w.before #[Value.ref b] s = true := fun w hw => hts w (List.mem_filter.mp hw).1
  have hnl : ∀ w ∈ mm_nl, w.before #[Value.ref b] s = true := fun w hw => flat_of_before _ hgv w (show w ∈ flatC given_1 ++ flatC narrow_1 from List.mem_append_right _ (by rw [mm_flat]; exact hw))
  have hA : ∀ a : Nat, a < s.heap.size → ¬ (fun q : Nat => s.heap.size ≤ q) a := fun a h => Nat.not_le.mpr h
  obtain ⟨adK, adV, hSt, hev⟩ := vk_Sof (s := s) (args := #[Value.ref b]) (N := 12) (tm := fun i => .string "PennyMore$Reader" (mm_sx i).1) (len := mm_sl) (byt := mm_sb) (A := fun q : Nat => s.heap.size ≤ q) (by decide +kernel) (mm_s1 hnl) (mm_s2 hnl) (mm_s3 hnl) (mm_s4 hnl) (mm_s5 hnl) (fun i j hi hj hij => mm_s6 hnl i hi j hj hij) hA
  obtain ⟨z, hz, hzc⟩ : ∃ z : Value, va_Z "jdk/internal/util/Preconditions" "SIOOBE_FORMATTER" "Ljava/util/function/BiFunction;" z (fun q : Nat => s.heap.size ≤ q) s s.heap ∧ z.category = 1 := by
    rcases va_Zqof (hts _ mm_gs6) (htsG _ mm_gi2) (mm_s9 hnl) hA with h | ⟨t, h⟩
    · exact ⟨_, h, rfl⟩
    · exact ⟨_, h, rfl⟩
  obtain ⟨aa, ha1, ha2, ha3⟩ : ∃ aa : Nat → Nat, (∀ k, k < 12 → aa (1000000 + 2 * k) = adK k) ∧ (∀ k, k < 12 → aa (1000000 + 2 * k + 1) = adV k) ∧ aa mm_SC = b := by
    refine ⟨fun a => if a = mm_SC then b else if a % 2 = 0 then adK (a % 1000000 / 2) else adV (a % 1000000 / 2), fun k hk => ?_, fun k hk => ?_, ?_⟩
    · have e1 : ¬ (1000000 + 2 * k = mm_SC) := by show ¬ (1000000 + 2 * k = 3000000); omega
      have e2 : (1000000 + 2 * k) % 2 = 0 := by rw [Nat.add_mul_mod_self_left]
      have e3 : (1000000 + 2 * k) % 1000000 / 2 = k := by rw [Nat.add_mod_left, Nat.mod_eq_of_lt (by omega)]; omega
      simp only [if_neg e1, if_pos e2, e3]
    · have e1 : ¬ (1000000 + 2 * k + 1 = mm_SC) := by show ¬ (1000000 + 2 * k + 1 = 3000000); omega
      have e2 : ¬ (1000000 + 2 * k + 1) % 2 = 0 := by rw [Nat.add_right_comm, Nat.add_mul_mod_self_left]; decide
      have e3 : (1000000 + 2 * k + 1) % 1000000 / 2 = k := by rw [Nat.add_assoc, Nat.add_mod_left, Nat.mod_eq_of_lt (by omega)]; omega
      simp only [if_neg e1, if_neg e2, e3]
    · simp
  have hEv : mm_Ev z aa (fun q : Nat => s.heap.size ≤ q) s s.heap := by
    refine ⟨⟨fun i hi => ?_, fun i j hi hj h => ?_⟩, fun k hk => ?_, va_Zof (hts _ mm_gs5) (htsG _ mm_gi1) (va_eqi (mm_s8 hnl)) hA, hz, hzc, mm_s7 hnl, fun q hq => va_Nw.of rfl (hts _ (mm_E1_ok q hq)), fun q hq => va_AO.of (hts _ (mm_E2_ok q hq)), fun q hq => va_Nw.of rfl (hts _ (mm_E3_ok q hq))⟩
    · have h := hSt.1 i hi
      simp only [ha1 i hi, ha2 i hi]
      exact h
    · simp only [ha1 i hi, ha1 j hj] at h
      exact hSt.2 i j hi hj h
    · rw [ha1 k hk]
      exact vk_R.of (hts _ (mm_strw k hk)) (hev k hk)
  have hkn : ∀ k, ∃ q : ClassId × (Nat → Nat), k < 13 → u_Kn s (mm_ck k) (mm_T k) (mm_NF k) q.1 q.2 := by
    intro k
    by_cases hk : k < 13
    · obtain ⟨n, hn⟩ := mm_inst k hk
      obtain ⟨cC, iS, h⟩ := u_known (C := mm_ck k) (T := mm_T k) (N := mm_NF k) (n := n) htsG (mm_uws k hk) (htsG _ hn)
      exact ⟨(cC, iS), fun _ => h⟩
    · exact ⟨(0, fun _ => 0), fun h => absurd h hk⟩
  obtain ⟨D, hD⟩ : ∃ D : va_G, ∀ k, k < 13 → u_Kn s (mm_ck k) (mm_T k) (mm_NF k) (D.1 k) (D.2 k) := ⟨(fun k => (Classical.choose (hkn k)).1, fun k => (Classical.choose (hkn k)).2), fun k hk => Classical.choose_spec (hkn k) hk⟩
  have harr : ∀ ty : FieldType, (Cond.arrayClass ty).before #[Value.ref b] s = true → ∃ cA : ClassId, ArrOfT s cA ty ∧ s.vm.findClass ("[" ++ ty.toString) = some cA := by
    intro ty h
    obtain ⟨c, k, comp, h1, h2, h3⟩ := Cond.arrayClass_spec h
    exact ⟨c, fun n v => ⟨fun k h => (by cases h), k, h2, comp, h3⟩, h1⟩
  have harq : ∀ C : String, (Cond.arrayOver (.object C)).before #[Value.ref b] s = true → ∃ cA : ClassId, ArrOfT s cA (.object C) ∧ va_RA s cA (.object C) := by
    intro C h
    obtain ⟨comp, c, k, h1, -, h3, h4, h5⟩ := Cond.arrayOver_spec h
    exact ⟨c, fun n v => ⟨fun k h => (by cases h), k, h3, comp, h4⟩, k, comp, h3, h4, h1, h5⟩
  obtain ⟨ci, hi1, hi2⟩ := harr .int (htsG _ mm_ar_i)
  obtain ⟨cj, hj1, hj2⟩ := harr .long (htsG _ mm_ar_j)
  obtain ⟨cz, hz1, hz2⟩ := harr .boolean (htsG _ mm_ar_z)
  obtain ⟨cb, hb1, hb2⟩ := harq "PennyMore$Buyer" (hts _ (mm_E2_ok _ (by decide)))
  obtain ⟨cs, hs1, hs2⟩ := harq "PennyMore$Shop" (hts _ (mm_E2_ok _ (by decide)))
  obtain ⟨ct, ht1, ht2⟩ := harq "PennyMore$Tape" (hts _ (mm_E2_ok _ (by decide)))
  obtain ⟨ca, hca⟩ : ∃ ca : Nat → ClassId, mm_ats ca = [(ci, .int), (cj, .long), (cz, .boolean), (cb, .object "PennyMore$Buyer"), (cs, .object "PennyMore$Shop"), (ct, .object "PennyMore$Tape")] := ⟨fun k => if k = 13 then ci else if k = 14 then cj else if k = 15 then cz else if k = 16 then cb else if k = 17 then cs else ct, rfl⟩
  have hK : va_K D mm_cl_s (mm_ats ca) s := by
    refine ⟨fun k q hq => ?_, fun k q hq => ?_⟩
    · have hk : k < 13 := (List.getElem?_eq_some_iff.mp hq).1
      rw [mm_cls_get k hk] at hq
      cases hq
      exact hD k hk
    · rw [hca] at hq
      match k, hq with
      | 0, hq => cases hq; exact ⟨hi1, hi2⟩
      | 1, hq => cases hq; exact ⟨hj1, hj2⟩
      | 2, hq => cases hq; exact ⟨hz1, hz2⟩
      | 3, hq => cases hq; exact ⟨hb1, hb2⟩
      | 4, hq => cases hq; exact ⟨hs1, hs2⟩
      | 5, hq => cases hq; exact ⟨ht1, ht2⟩
      | k + 6, hq => simp at hq
  obtain ⟨S', hex, hn1, hz1'⟩ := hlaw xs L hL
  obtain ⟨f, hf⟩ := mm_ex_iff.mp hex
  rw [lg_entry_eq]
  have hle := mm_en_Lr (aa := aa) (z := z) hzc (as := [.ref mm_SC]) (n := 4) (by decide)
  have hmap : ([.ref mm_SC] : List Value).map (mm_ad aa z) = [.ref b] := by
    rw [List.map_cons, mm_ad_ref, ha3]; rfl
  rw [hmap] at hle
  have hnil : mm_ws ca aa (mm_S0 L xs) = [] := rfl
  refine mm_frame f p l e room_1 s m #[Value.ref b] below meth c _ D ca z (fun q : Nat => s.heap.size ≤ q) mm_tl (L, xs) 30 mm_nc 0 [.ref mm_SC, .null, .null, .null] [] (mm_S0 L xs) (some (.int 1)) S' aa s.heap [] _ 0 0 rfl hf
    ⟨hx, hb, hml, hown, htsG, fun h => absurd h (by decide), rfl, hK, fun q h => h, by decide, by decide⟩
    ⟨by rw [hnil]; exact fun k q h => by simp at h, by rw [hnil]; exact ⟨fun i j p q h => by simp at h, fun k q h => by simp at h⟩, va_S.rf, ⟨fun i hi => absurd hi (Nat.not_lt_zero i), Nat.zero_le _⟩, hEv, rfl, rfl, fun _ => by rw [ha3]; exact ⟨hX, hbl, Nat.not_le.mpr hbl⟩⟩
    ⟨mm_p1 (Or.inr (by decide)) (mm_p1 trivial (mm_p1 trivial (mm_p1 trivial (fun w h => by cases h)))), (fun w h => by cases h), hle⟩ (by show 0 + mm_n S' ≤ 600000 + 0; omega) (by show 0 + mm_z S' ≤ 7302250 + 0; omega) ?_
  intro pc' aa' H' locs' lm' cells' slots' h1 h2 h3 h4 h5 h6
  have h1 : cells' + 0 = 0 + mm_n S' := h1
  have h2 : slots' + 0 = 0 + mm_z S' := h2
  refine W.widen (k := 600000) (n := 7302250) (by omega) (by omega) ?_
  refine va_forget (fun q hq => h5.2.2.1.2.2 q hq) ?_
  exact lw_ret hx hb hr hlocks h4.1
end
section
/-! ===== the small machine's instructions as equations ===== -/
section MX
variable {d y pc : Nat} {ls st : List Value} {S : mm_S} {t : mm_mT}
theorem mm_nn {S : mm_S} : mm_n S ≤ mm_n S ∧ mm_z S ≤ mm_z S := ⟨Nat.le_refl _, Nat.le_refl _⟩
theorem mx_iconst (ht : mm_mt[y]? = some t) {n : Int} {v : Int32} (hd : decode t.2.1 pc = .ok (.iconst n, 1)) (hv : Int32.ofInt n = v) : mm_ex d y pc ls st S = mm_ex d y (pc + 1) ls (.int v :: st) S := by
  subst hv
  exact mm_ex_go ht hd rfl rfl mm_nn
theorem mx_bipush (ht : mm_mt[y]? = some t) {n : Int} {v : Int32} (hd : decode t.2.1 pc = .ok (.bipush n, 2)) (hv : (Int8.ofInt n).toInt32 = v) : mm_ex d y pc ls st S = mm_ex d y (pc + 2) ls (.int v :: st) S := by
  subst hv
  exact mm_ex_go ht hd rfl rfl mm_nn
theorem mx_sipush (ht : mm_mt[y]? = some t) {n : Int} {v : Int32} (hd : decode t.2.1 pc = .ok (.sipush n, 3)) (hv : (Int16.ofInt n).toInt32 = v) : mm_ex d y pc ls st S = mm_ex d y (pc + 3) ls (.int v :: st) S := by
  subst hv
  exact mm_ex_go ht hd rfl rfl mm_nn
theorem mx_lconst (ht : mm_mt[y]? = some t) {n : Fin 2} {v : Int64} (hd : decode t.2.1 pc = .ok (.lconst n, 1)) (hv : Int64.ofNat (n : Nat) = v) : mm_ex d y pc ls st S = mm_ex d y (pc + 1) ls (.long v :: st) S := by
  subst hv
  exact mm_ex_go ht hd rfl rfl mm_nn
theorem mx_ldc (ht : mm_mt[y]? = some t) {i : Nat} {v : Value} (hd : decode t.2.1 pc = .ok (.ldc i, 2)) (hv : mm_fd mm_LC t.2.2.2.2 i = some v) : mm_ex d y pc ls st S = mm_ex d y (pc + 2) ls (v :: st) S :=
  mm_ex_go ht hd rfl (by unfold mm_st; simp only [hv]) mm_nn
theorem mx_ldc_w (ht : mm_mt[y]? = some t) {i : Nat} {v : Int32} (hd : decode t.2.1 pc = .ok (.ldc_w i, 3)) (hv : mm_fd mm_LC t.2.2.2.2 i = some (.int v)) : mm_ex d y pc ls st S = mm_ex d y (pc + 3) ls (.int v :: st) S :=
  mm_ex_go ht hd rfl (by unfold mm_st; simp only [hv]) mm_nn
theorem mx_ldc2_w (ht : mm_mt[y]? = some t) {i : Nat} {v : Int64} (hd : decode t.2.1 pc = .ok (.ldc2_w i, 3)) (hv : mm_fd mm_L2 t.2.2.2.2 i = some v) : mm_ex d y pc ls st S = mm_ex d y (pc + 3) ls (.long v :: st) S :=
  mm_ex_go ht hd rfl (by unfold mm_st; simp only [hv]) mm_nn
theorem mx_iload_n (ht : mm_mt[y]? = some t) {k : Fin 4} {x : Int32} (hd : decode t.2.1 pc = .ok (.iload_n k, 1)) (hv : mm_lg ls k = .int x) : mm_ex d y pc ls st S = mm_ex d y (pc + 1) ls (.int x :: st) S :=
  mm_ex_go ht hd rfl (by unfold mm_st; simp only [hv]; rfl) mm_nn
theorem mx_iload (ht : mm_mt[y]? = some t) {k : Nat} {x : Int32} (hd : decode t.2.1 pc = .ok (.iload k, 2)) (hv : mm_lg ls k = .int x) : mm_ex d y pc ls st S = mm_ex d y (pc + 2) ls (.int x :: st) S :=
  mm_ex_go ht hd rfl (by unfold mm_st; simp only [hv]; rfl) mm_nn
theorem mx_lload_n (ht : mm_mt[y]? = some t) {k : Fin 4} {x : Int64} (hd : decode t.2.1 pc = .ok (.lload_n k, 1)) (hv : mm_lg ls k = .long x) : mm_ex d y pc ls st S = mm_ex d y (pc + 1) ls (.long x :: st) S :=
  mm_ex_go ht hd rfl (by unfold mm_st; simp only [hv]; rfl) mm_nn
theorem mx_lload (ht : mm_mt[y]? = some t) {k : Nat} {x : Int64} (hd : decode t.2.1 pc = .ok (.lload k, 2)) (hv : mm_lg ls k = .long x) : mm_ex d y pc ls st S = mm_ex d y (pc + 2) ls (.long x :: st) S :=
  mm_ex_go ht hd rfl (by unfold mm_st; simp only [hv]; rfl) mm_nn
theorem mx_aload_n (ht : mm_mt[y]? = some t) {k : Fin 4} {x : Nat} (hd : decode t.2.1 pc = .ok (.aload_n k, 1)) (hv : mm_lg ls k = .ref x) : mm_ex d y pc ls st S = mm_ex d y (pc + 1) ls (.ref x :: st) S :=
  mm_ex_go ht hd rfl (by unfold mm_st; simp only [hv]; rfl) mm_nn
theorem mx_aload (ht : mm_mt[y]? = some t) {k : Nat} {x : Nat} (hd : decode t.2.1 pc = .ok (.aload k, 2)) (hv : mm_lg ls k = .ref x) : mm_ex d y pc ls st S = mm_ex d y (pc + 2) ls (.ref x :: st) S :=
  mm_ex_go ht hd rfl (by unfold mm_st; simp only [hv]; rfl) mm_nn
theorem mm_gdt {b : Bool} {A : mm_Act} (h : b = true) : mm_gd b A = A := if_pos h
theorem mx_istore_n (ht : mm_mt[y]? = some t) {k : Fin 4} {x : Int32} {ls' : List Value} (hd : decode t.2.1 pc = .ok (.istore_n k, 1)) (hk : decide ((k : Nat) < ls.length) = true) (hl : mm_l1 ls k (.int x) = ls') : mm_ex d y pc ls (.int x :: st) S = mm_ex d y (pc + 1) ls' st S := by
  subst hl
  exact mm_ex_go ht hd rfl (mm_gdt hk) mm_nn
theorem mx_istore (ht : mm_mt[y]? = some t) {k : Nat} {x : Int32} {ls' : List Value} (hd : decode t.2.1 pc = .ok (.istore k, 2)) (hk : decide (k < ls.length) = true) (hl : mm_l1 ls k (.int x) = ls') : mm_ex d y pc ls (.int x :: st) S = mm_ex d y (pc + 2) ls' st S := by
  subst hl
  exact mm_ex_go ht hd rfl (mm_gdt hk) mm_nn
theorem mx_lstore_n (ht : mm_mt[y]? = some t) {k : Fin 4} {x : Int64} {ls' : List Value} (hd : decode t.2.1 pc = .ok (.lstore_n k, 1)) (hk : decide ((k : Nat) + 1 < ls.length) = true) (hl : mm_l2 ls k (.long x) = ls') : mm_ex d y pc ls (.long x :: st) S = mm_ex d y (pc + 1) ls' st S := by
  subst hl
  exact mm_ex_go ht hd rfl (mm_gdt hk) mm_nn
theorem mx_lstore (ht : mm_mt[y]? = some t) {k : Nat} {x : Int64} {ls' : List Value} (hd : decode t.2.1 pc = .ok (.lstore k, 2)) (hk : decide (k + 1 < ls.length) = true) (hl : mm_l2 ls k (.long x) = ls') : mm_ex d y pc ls (.long x :: st) S = mm_ex d y (pc + 2) ls' st S := by
  subst hl
  exact mm_ex_go ht hd rfl (mm_gdt hk) mm_nn
theorem mx_astore_n (ht : mm_mt[y]? = some t) {k : Fin 4} {x : Nat} {ls' : List Value} (hd : decode t.2.1 pc = .ok (.astore_n k, 1)) (hk : decide ((k : Nat) < ls.length) = true) (hl : mm_l1 ls k (.ref x) = ls') : mm_ex d y pc ls (.ref x :: st) S = mm_ex d y (pc + 1) ls' st S := by
  subst hl
  exact mm_ex_go ht hd rfl (mm_gdt hk) mm_nn
theorem mx_astore (ht : mm_mt[y]? = some t) {k : Nat} {x : Nat} {ls' : List Value} (hd : decode t.2.1 pc = .ok (.astore k, 2)) (hk : decide (k < ls.length) = true) (hl : mm_l1 ls k (.ref x) = ls') : mm_ex d y pc ls (.ref x :: st) S = mm_ex d y (pc + 2) ls' st S := by
  subst hl
  exact mm_ex_go ht hd rfl (mm_gdt hk) mm_nn
theorem mx_iinc (ht : mm_mt[y]? = some t) {k : Nat} {n : Int} {x v : Int32} {ls' : List Value} (hd : decode t.2.1 pc = .ok (.iinc k n, 3)) (hv : mm_lg ls k = .int x) (hk : decide (k < ls.length) = true) (hn : Int32.ofInt n = v) (hl : mm_l1 ls k (.int (x + v)) = ls') : mm_ex d y pc ls st S = mm_ex d y (pc + 3) ls' st S := by
  subst hl hn
  exact mm_ex_go ht hd rfl (by unfold mm_st; simp only [hv]; exact mm_gdt hk) mm_nn
theorem mx_iadd (ht : mm_mt[y]? = some t) {a b : Int32} (hd : decode t.2.1 pc = .ok (.iadd, 1)) : mm_ex d y pc ls (.int b :: .int a :: st) S = mm_ex d y (pc + 1) ls (.int (a + b) :: st) S := mm_ex_go ht hd rfl rfl mm_nn
theorem mx_isub (ht : mm_mt[y]? = some t) {a b : Int32} (hd : decode t.2.1 pc = .ok (.isub, 1)) : mm_ex d y pc ls (.int b :: .int a :: st) S = mm_ex d y (pc + 1) ls (.int (a - b) :: st) S := mm_ex_go ht hd rfl rfl mm_nn
theorem mx_imul (ht : mm_mt[y]? = some t) {a b : Int32} (hd : decode t.2.1 pc = .ok (.imul, 1)) : mm_ex d y pc ls (.int b :: .int a :: st) S = mm_ex d y (pc + 1) ls (.int (a * b) :: st) S := mm_ex_go ht hd rfl rfl mm_nn
theorem mx_iand (ht : mm_mt[y]? = some t) {a b : Int32} (hd : decode t.2.1 pc = .ok (.iand, 1)) : mm_ex d y pc ls (.int b :: .int a :: st) S = mm_ex d y (pc + 1) ls (.int (a &&& b) :: st) S := mm_ex_go ht hd rfl rfl mm_nn
theorem mx_ior (ht : mm_mt[y]? = some t) {a b : Int32} (hd : decode t.2.1 pc = .ok (.ior, 1)) : mm_ex d y pc ls (.int b :: .int a :: st) S = mm_ex d y (pc + 1) ls (.int (a ||| b) :: st) S := mm_ex_go ht hd rfl rfl mm_nn
theorem mx_ixor (ht : mm_mt[y]? = some t) {a b : Int32} (hd : decode t.2.1 pc = .ok (.ixor, 1)) : mm_ex d y pc ls (.int b :: .int a :: st) S = mm_ex d y (pc + 1) ls (.int (a ^^^ b) :: st) S := mm_ex_go ht hd rfl rfl mm_nn
theorem mx_ishl (ht : mm_mt[y]? = some t) {a b : Int32} (hd : decode t.2.1 pc = .ok (.ishl, 1)) : mm_ex d y pc ls (.int b :: .int a :: st) S = mm_ex d y (pc + 1) ls (.int (a <<< (b &&& 31)) :: st) S := mm_ex_go ht hd rfl rfl mm_nn
theorem mx_ishr (ht : mm_mt[y]? = some t) {a b : Int32} (hd : decode t.2.1 pc = .ok (.ishr, 1)) : mm_ex d y pc ls (.int b :: .int a :: st) S = mm_ex d y (pc + 1) ls (.int (a >>> (b &&& 31)) :: st) S := mm_ex_go ht hd rfl rfl mm_nn
theorem mx_iushr (ht : mm_mt[y]? = some t) {a b : Int32} (hd : decode t.2.1 pc = .ok (.iushr, 1)) : mm_ex d y pc ls (.int b :: .int a :: st) S = mm_ex d y (pc + 1) ls (.int (a.toUInt32 >>> (b.toUInt32 &&& Int32.toUInt32 31)).toInt32 :: st) S := mm_ex_go ht hd rfl rfl mm_nn
theorem mx_idiv (ht : mm_mt[y]? = some t) {a b : Int32} (hd : decode t.2.1 pc = .ok (.idiv, 1)) (h : ¬ b = nI 0) : mm_ex d y pc ls (.int b :: .int a :: st) S = mm_ex d y (pc + 1) ls (.int (a / b) :: st) S := mm_ex_go ht hd rfl (mm_gdt (by have h1 : ¬ b = 0 := h; simp [h1])) mm_nn
theorem mx_irem (ht : mm_mt[y]? = some t) {a b : Int32} (hd : decode t.2.1 pc = .ok (.irem, 1)) (h : ¬ b = nI 0) : mm_ex d y pc ls (.int b :: .int a :: st) S = mm_ex d y (pc + 1) ls (.int (a - a / b * b) :: st) S := mm_ex_go ht hd rfl (mm_gdt (by have h1 : ¬ b = 0 := h; simp [h1])) mm_nn
theorem mx_ineg (ht : mm_mt[y]? = some t) {a : Int32} (hd : decode t.2.1 pc = .ok (.ineg, 1)) : mm_ex d y pc ls (.int a :: st) S = mm_ex d y (pc + 1) ls (.int (-a) :: st) S := mm_ex_go ht hd rfl rfl mm_nn
theorem mx_i2l (ht : mm_mt[y]? = some t) {a : Int32} (hd : decode t.2.1 pc = .ok (.i2l, 1)) : mm_ex d y pc ls (.int a :: st) S = mm_ex d y (pc + 1) ls (.long a.toInt64 :: st) S := mm_ex_go ht hd rfl rfl mm_nn
theorem mx_i2b (ht : mm_mt[y]? = some t) {a : Int32} (hd : decode t.2.1 pc = .ok (.i2b, 1)) : mm_ex d y pc ls (.int a :: st) S = mm_ex d y (pc + 1) ls (.int a.toInt8.toInt32 :: st) S := mm_ex_go ht hd rfl rfl mm_nn
theorem mx_i2s (ht : mm_mt[y]? = some t) {a : Int32} (hd : decode t.2.1 pc = .ok (.i2s, 1)) : mm_ex d y pc ls (.int a :: st) S = mm_ex d y (pc + 1) ls (.int a.toInt16.toInt32 :: st) S := mm_ex_go ht hd rfl rfl mm_nn
theorem mx_i2c (ht : mm_mt[y]? = some t) {a : Int32} (hd : decode t.2.1 pc = .ok (.i2c, 1)) : mm_ex d y pc ls (.int a :: st) S = mm_ex d y (pc + 1) ls (.int (a.toUInt32 % 65536).toInt32 :: st) S := mm_ex_go ht hd rfl rfl mm_nn
theorem mx_l2i (ht : mm_mt[y]? = some t) {a : Int64} (hd : decode t.2.1 pc = .ok (.l2i, 1)) : mm_ex d y pc ls (.long a :: st) S = mm_ex d y (pc + 1) ls (.int a.toInt32 :: st) S := mm_ex_go ht hd rfl rfl mm_nn
theorem mx_ladd (ht : mm_mt[y]? = some t) {a b : Int64} (hd : decode t.2.1 pc = .ok (.ladd, 1)) : mm_ex d y pc ls (.long b :: .long a :: st) S = mm_ex d y (pc + 1) ls (.long (a + b) :: st) S := mm_ex_go ht hd rfl rfl mm_nn
theorem mx_lsub (ht : mm_mt[y]? = some t) {a b : Int64} (hd : decode t.2.1 pc = .ok (.lsub, 1)) : mm_ex d y pc ls (.long b :: .long a :: st) S = mm_ex d y (pc + 1) ls (.long (a - b) :: st) S := mm_ex_go ht hd rfl rfl mm_nn
theorem mx_lmul (ht : mm_mt[y]? = some t) {a b : Int64} (hd : decode t.2.1 pc = .ok (.lmul, 1)) : mm_ex d y pc ls (.long b :: .long a :: st) S = mm_ex d y (pc + 1) ls (.long (a * b) :: st) S := mm_ex_go ht hd rfl rfl mm_nn
theorem mx_land (ht : mm_mt[y]? = some t) {a b : Int64} (hd : decode t.2.1 pc = .ok (.land, 1)) : mm_ex d y pc ls (.long b :: .long a :: st) S = mm_ex d y (pc + 1) ls (.long (a &&& b) :: st) S := mm_ex_go ht hd rfl rfl mm_nn
theorem mx_lor (ht : mm_mt[y]? = some t) {a b : Int64} (hd : decode t.2.1 pc = .ok (.lor, 1)) : mm_ex d y pc ls (.long b :: .long a :: st) S = mm_ex d y (pc + 1) ls (.long (a ||| b) :: st) S := mm_ex_go ht hd rfl rfl mm_nn
theorem mx_ldiv (ht : mm_mt[y]? = some t) {a b : Int64} (hd : decode t.2.1 pc = .ok (.ldiv, 1)) (h : ¬ b = 0) : mm_ex d y pc ls (.long b :: .long a :: st) S = mm_ex d y (pc + 1) ls (.long (a / b) :: st) S := mm_ex_go ht hd rfl (mm_gdt (by simp [h])) mm_nn
theorem mx_lrem (ht : mm_mt[y]? = some t) {a b : Int64} (hd : decode t.2.1 pc = .ok (.lrem, 1)) (h : ¬ b = 0) : mm_ex d y pc ls (.long b :: .long a :: st) S = mm_ex d y (pc + 1) ls (.long (a - a / b * b) :: st) S := mm_ex_go ht hd rfl (mm_gdt (by simp [h])) mm_nn
theorem mx_lshl (ht : mm_mt[y]? = some t) {a : Int64} {b : Int32} (hd : decode t.2.1 pc = .ok (.lshl, 1)) : mm_ex d y pc ls (.int b :: .long a :: st) S = mm_ex d y (pc + 1) ls (.long (a <<< (b.toInt64 &&& 63)) :: st) S := mm_ex_go ht hd rfl rfl mm_nn
theorem mx_lcmp (ht : mm_mt[y]? = some t) {a b : Int64} (hd : decode t.2.1 pc = .ok (.lcmp, 1)) : mm_ex d y pc ls (.long b :: .long a :: st) S = mm_ex d y (pc + 1) ls (.int (lg_cmp a b) :: st) S := mm_ex_go ht hd rfl rfl mm_nn
theorem mx_dupi (ht : mm_mt[y]? = some t) {x : Int32} (hd : decode t.2.1 pc = .ok (.dup, 1)) : mm_ex d y pc ls (.int x :: st) S = mm_ex d y (pc + 1) ls (.int x :: .int x :: st) S := mm_ex_go ht hd rfl rfl mm_nn
theorem mx_dupr (ht : mm_mt[y]? = some t) {x : Nat} (hd : decode t.2.1 pc = .ok (.dup, 1)) : mm_ex d y pc ls (.ref x :: st) S = mm_ex d y (pc + 1) ls (.ref x :: .ref x :: st) S := mm_ex_go ht hd rfl rfl mm_nn
theorem mx_popi (ht : mm_mt[y]? = some t) {x : Int32} (hd : decode t.2.1 pc = .ok (.pop, 1)) : mm_ex d y pc ls (.int x :: st) S = mm_ex d y (pc + 1) ls st S := mm_ex_go ht hd rfl rfl mm_nn
theorem mx_dup2l (ht : mm_mt[y]? = some t) {x : Int64} (hd : decode t.2.1 pc = .ok (.dup2, 1)) : mm_ex d y pc ls (.long x :: st) S = mm_ex d y (pc + 1) ls (.long x :: .long x :: st) S := mm_ex_go ht hd rfl rfl mm_nn
theorem mx_dup2i (ht : mm_mt[y]? = some t) {x : Int32} {a : Nat} (hd : decode t.2.1 pc = .ok (.dup2, 1)) : mm_ex d y pc ls (.int x :: .ref a :: st) S = mm_ex d y (pc + 1) ls (.int x :: .ref a :: .int x :: .ref a :: st) S := mm_ex_go ht hd rfl rfl mm_nn
theorem mm_jpt {pc tgt : Nat} {off : Int} (h : (pc : Int) + off = (tgt : Int)) : mm_jp pc off ls st S = mm_go tgt ls st S := by
  unfold mm_jp
  rw [if_neg (by omega), h]
  rfl
theorem mx_goto (ht : mm_mt[y]? = some t) {off : Int} {tgt : Nat} (hd : decode t.2.1 pc = .ok (.goto off, 3)) (h : (pc : Int) + off = (tgt : Int)) : mm_ex d y pc ls st S = mm_ex d y tgt ls st S := mm_ex_go ht hd rfl (mm_jpt h) mm_nn
theorem mm_cjt {b : Bool} {pc tgt : Nat} {off : Int} (h : (pc : Int) + off = (tgt : Int)) : mm_cj b pc off ls st S = if b = true then mm_go tgt ls st S else mm_go (pc + 3) ls st S := by
  unfold mm_cj
  rw [if_neg (by omega), h]
  rfl
theorem mx_if (ht : mm_mt[y]? = some t) {c : ClassFile.Cond} {off : Int} {tgt : Nat} {x : Int32} (hd : decode t.2.1 pc = .ok (.ifCond c off, 3)) (h : (pc : Int) + off = (tgt : Int)) : mm_ex d y pc ls (.int x :: st) S = if mm_c1 c x = true then mm_ex d y tgt ls st S else mm_ex d y (pc + 3) ls st S := by
  have e : mm_st d t pc ls (.int x :: st) S (.ifCond c off) = mm_cj (mm_c1 c x) pc off ls st S := rfl
  rw [mm_cjt h] at e
  by_cases hb : mm_c1 c x = true
  · rw [if_pos hb] at e ⊢
    exact mm_ex_go ht hd rfl e mm_nn
  · rw [if_neg hb] at e ⊢
    exact mm_ex_go ht hd rfl e mm_nn
theorem mx_icmp (ht : mm_mt[y]? = some t) {c : ClassFile.Cond} {off : Int} {tgt : Nat} {a b : Int32} (hd : decode t.2.1 pc = .ok (.if_icmp c off, 3)) (h : (pc : Int) + off = (tgt : Int)) : mm_ex d y pc ls (.int b :: .int a :: st) S = if mm_c2 c a b = true then mm_ex d y tgt ls st S else mm_ex d y (pc + 3) ls st S := by
  have e : mm_st d t pc ls (.int b :: .int a :: st) S (.if_icmp c off) = mm_cj (mm_c2 c a b) pc off ls st S := rfl
  rw [mm_cjt h] at e
  by_cases hb : mm_c2 c a b = true
  · rw [if_pos hb] at e ⊢
    exact mm_ex_go ht hd rfl e mm_nn
  · rw [if_neg hb] at e ⊢
    exact mm_ex_go ht hd rfl e mm_nn
theorem mm_ifd {α : Type} {P : Prop} [Decidable P] {a b : α} : (if decide P = true then a else b) = if P then a else b := by
  by_cases h : P
  · rw [if_pos (by simpa using h), if_pos h]
  · rw [if_neg (by simpa using h), if_neg h]
theorem mm_ifn {α : Type} {P : Prop} [Decidable P] {a b : α} : (if (!decide P) = true then a else b) = if P then b else a := by
  by_cases h : P
  · rw [if_neg (by simp [h]), if_pos h]
  · rw [if_pos (by simp [h]), if_neg h]
theorem mx_ieq (ht : mm_mt[y]? = some t) {off : Int} {tgt : Nat} {x : Int32} (hd : decode t.2.1 pc = .ok (.ifCond .eq off, 3)) (h : (pc : Int) + off = (tgt : Int)) : mm_ex d y pc ls (.int x :: st) S = if x = nI 0 then mm_ex d y tgt ls st S else mm_ex d y (pc + 3) ls st S := (mx_if ht hd h).trans mm_ifd
theorem mx_ine (ht : mm_mt[y]? = some t) {off : Int} {tgt : Nat} {x : Int32} (hd : decode t.2.1 pc = .ok (.ifCond .ne off, 3)) (h : (pc : Int) + off = (tgt : Int)) : mm_ex d y pc ls (.int x :: st) S = if x = nI 0 then mm_ex d y (pc + 3) ls st S else mm_ex d y tgt ls st S := (mx_if ht hd h).trans mm_ifn
theorem mx_ilt (ht : mm_mt[y]? = some t) {off : Int} {tgt : Nat} {x : Int32} (hd : decode t.2.1 pc = .ok (.ifCond .lt off, 3)) (h : (pc : Int) + off = (tgt : Int)) : mm_ex d y pc ls (.int x :: st) S = if x < nI 0 then mm_ex d y tgt ls st S else mm_ex d y (pc + 3) ls st S := (mx_if ht hd h).trans mm_ifd
theorem mx_ige (ht : mm_mt[y]? = some t) {off : Int} {tgt : Nat} {x : Int32} (hd : decode t.2.1 pc = .ok (.ifCond .ge off, 3)) (h : (pc : Int) + off = (tgt : Int)) : mm_ex d y pc ls (.int x :: st) S = if nI 0 ≤ x then mm_ex d y tgt ls st S else mm_ex d y (pc + 3) ls st S := (mx_if ht hd h).trans mm_ifd
theorem mx_igt (ht : mm_mt[y]? = some t) {off : Int} {tgt : Nat} {x : Int32} (hd : decode t.2.1 pc = .ok (.ifCond .gt off, 3)) (h : (pc : Int) + off = (tgt : Int)) : mm_ex d y pc ls (.int x :: st) S = if nI 0 < x then mm_ex d y tgt ls st S else mm_ex d y (pc + 3) ls st S := (mx_if ht hd h).trans mm_ifd
theorem mx_ile (ht : mm_mt[y]? = some t) {off : Int} {tgt : Nat} {x : Int32} (hd : decode t.2.1 pc = .ok (.ifCond .le off, 3)) (h : (pc : Int) + off = (tgt : Int)) : mm_ex d y pc ls (.int x :: st) S = if x ≤ nI 0 then mm_ex d y tgt ls st S else mm_ex d y (pc + 3) ls st S := (mx_if ht hd h).trans mm_ifd
theorem mx_ceq (ht : mm_mt[y]? = some t) {off : Int} {tgt : Nat} {a b : Int32} (hd : decode t.2.1 pc = .ok (.if_icmp .eq off, 3)) (h : (pc : Int) + off = (tgt : Int)) : mm_ex d y pc ls (.int b :: .int a :: st) S = if a = b then mm_ex d y tgt ls st S else mm_ex d y (pc + 3) ls st S := (mx_icmp ht hd h).trans mm_ifd
theorem mx_cne (ht : mm_mt[y]? = some t) {off : Int} {tgt : Nat} {a b : Int32} (hd : decode t.2.1 pc = .ok (.if_icmp .ne off, 3)) (h : (pc : Int) + off = (tgt : Int)) : mm_ex d y pc ls (.int b :: .int a :: st) S = if a = b then mm_ex d y (pc + 3) ls st S else mm_ex d y tgt ls st S := (mx_icmp ht hd h).trans mm_ifn
theorem mx_clt (ht : mm_mt[y]? = some t) {off : Int} {tgt : Nat} {a b : Int32} (hd : decode t.2.1 pc = .ok (.if_icmp .lt off, 3)) (h : (pc : Int) + off = (tgt : Int)) : mm_ex d y pc ls (.int b :: .int a :: st) S = if a < b then mm_ex d y tgt ls st S else mm_ex d y (pc + 3) ls st S := (mx_icmp ht hd h).trans mm_ifd
theorem mx_cge (ht : mm_mt[y]? = some t) {off : Int} {tgt : Nat} {a b : Int32} (hd : decode t.2.1 pc = .ok (.if_icmp .ge off, 3)) (h : (pc : Int) + off = (tgt : Int)) : mm_ex d y pc ls (.int b :: .int a :: st) S = if b ≤ a then mm_ex d y tgt ls st S else mm_ex d y (pc + 3) ls st S := (mx_icmp ht hd h).trans mm_ifd
theorem mx_cgt (ht : mm_mt[y]? = some t) {off : Int} {tgt : Nat} {a b : Int32} (hd : decode t.2.1 pc = .ok (.if_icmp .gt off, 3)) (h : (pc : Int) + off = (tgt : Int)) : mm_ex d y pc ls (.int b :: .int a :: st) S = if b < a then mm_ex d y tgt ls st S else mm_ex d y (pc + 3) ls st S := (mx_icmp ht hd h).trans mm_ifd
theorem mx_cle (ht : mm_mt[y]? = some t) {off : Int} {tgt : Nat} {a b : Int32} (hd : decode t.2.1 pc = .ok (.if_icmp .le off, 3)) (h : (pc : Int) + off = (tgt : Int)) : mm_ex d y pc ls (.int b :: .int a :: st) S = if a ≤ b then mm_ex d y tgt ls st S else mm_ex d y (pc + 3) ls st S := (mx_icmp ht hd h).trans mm_ifd
/-- the switches: by a list of keys and ends -/
def mm_sw {α : Type} (x : Int32) (ks : List (Int32 × α)) (df : α) : α := match ks with
  | [] => df
  | q :: l => if x = q.1 then q.2 else mm_sw x l df
theorem mx_tsw (ht : mm_mt[y]? = some t) {df lo hi : Int} {offs : Array Int} {len tg : Nat} {x : Int32} (hd : decode t.2.1 pc = .ok (.tableswitch df lo hi offs, len)) (h : (if x.toInt < lo ∨ hi < x.toInt then mm_jp pc df ls st S else match offs[(x.toInt - lo).toNat]? with
    | some off => mm_jp pc off ls st S
    | none => none) = mm_go tg ls st S) : mm_ex d y pc ls (.int x :: st) S = mm_ex d y tg ls st S := mm_ex_go ht hd rfl h mm_nn
theorem mx_lsw (ht : mm_mt[y]? = some t) {df : Int} {ps : Array (Int × Int)} {len tg : Nat} {x : Int32} (hd : decode t.2.1 pc = .ok (.lookupswitch df ps, len)) (hp : (ps.toList.zip (ps.toList.drop 1)).all (fun (a, next) => a.1 < next.1) = true) (h : (pc : Int) + Op.lookupswitch.offset ps.toList df x.toInt = (tg : Int)) : mm_ex d y pc ls (.int x :: st) S = mm_ex d y tg ls st S := mm_ex_go ht hd rfl ((mm_gdt hp).trans (mm_jpt h)) mm_nn
theorem mx_gets1 (ht : mm_mt[y]? = some t) (hd : decode t.2.1 pc = .ok (.getstatic 38, 3)) (h : t.2.2.2.2 = 13) : mm_ex d y pc ls st S = mm_ex d y (pc + 3) ls (.int 1 :: st) S := mm_ex_go ht hd rfl (if_pos ⟨h, rfl⟩) mm_nn
theorem mx_gets2 (ht : mm_mt[y]? = some t) (hd : decode t.2.1 pc = .ok (.getstatic 1053, 3)) (h : t.2.2.2.2 = 13) : mm_ex d y pc ls st S = mm_ex d y (pc + 3) ls (mm_FM :: st) S := mm_ex_go ht hd rfl ((if_neg (by simp)).trans (if_pos ⟨h, rfl⟩)) mm_nn
theorem mx_getS1 (ht : mm_mt[y]? = some t) {a : Nat} (hd : decode t.2.1 pc = .ok (.getfield 9, 3)) (h : t.2.2.2.2 = 13) (ha : mm_isS a = true) : mm_ex d y pc ls (.ref a :: st) S = mm_ex d y (pc + 3) ls (.ref (a + 1) :: st) S := mm_ex_go ht hd rfl ((if_pos h).trans ((if_pos ha).trans (if_pos rfl))) mm_nn
theorem mx_getS2 (ht : mm_mt[y]? = some t) {a : Nat} (hd : decode t.2.1 pc = .ok (.getfield 15, 3)) (h : t.2.2.2.2 = 13) (ha : mm_isS a = true) : mm_ex d y pc ls (.ref a :: st) S = mm_ex d y (pc + 3) ls (.int 0 :: st) S := mm_ex_go ht hd rfl ((if_pos h).trans ((if_pos ha).trans ((if_neg (by simp)).trans (if_pos rfl)))) mm_nn
theorem mx_getf (ht : mm_mt[y]? = some t) {i f k tg fi a : Nat} {v : Value} (hd : decode t.2.1 pc = .ok (.getfield i, 3)) (h : decide (t.2.2.2.2 = 13) = false) (hl : mm_fd mm_FL t.2.2.2.2 i = some (f, k, tg, fi)) (hg : mm_gf S f k tg a = some v) : mm_ex d y pc ls (.ref a :: st) S = mm_ex d y (pc + 3) ls (v :: st) S := by
  refine mm_ex_go ht hd rfl ((if_neg (of_decide_eq_false h)).trans ?_) mm_nn
  simp only [hl, hg]
theorem mx_geti (ht : mm_mt[y]? = some t) {i f k fi a : Nat} (hd : decode t.2.1 pc = .ok (.getfield i, 3)) (h : decide (t.2.2.2.2 = 13) = false) (hl : mm_fd mm_FL t.2.2.2.2 i = some (f, k, 0, fi)) (ho : mm_obj S a f = true) : mm_ex d y pc ls (.ref a :: st) S = mm_ex d y (pc + 3) ls (.int (mm_M S a k) :: st) S := mx_getf ht hd h hl (by unfold mm_gf; rw [if_pos ho]; rfl)
theorem mx_getz (ht : mm_mt[y]? = some t) {i f k fi a : Nat} (hd : decode t.2.1 pc = .ok (.getfield i, 3)) (h : decide (t.2.2.2.2 = 13) = false) (hl : mm_fd mm_FL t.2.2.2.2 i = some (f, k, 3, fi)) (ho : mm_obj S a f = true) : mm_ex d y pc ls (.ref a :: st) S = mm_ex d y (pc + 3) ls (.int (mm_M S a k) :: st) S := mx_getf ht hd h hl (by unfold mm_gf; rw [if_pos ho]; rfl)
theorem mx_getj (ht : mm_mt[y]? = some t) {i f k fi a : Nat} (hd : decode t.2.1 pc = .ok (.getfield i, 3)) (h : decide (t.2.2.2.2 = 13) = false) (hl : mm_fd mm_FL t.2.2.2.2 i = some (f, k, 1, fi)) (ho : mm_obj S a f = true) : mm_ex d y pc ls (.ref a :: st) S = mm_ex d y (pc + 3) ls (.long (mm_L S a k) :: st) S := mx_getf ht hd h hl (by unfold mm_gf; rw [if_pos ho]; rfl)
theorem mx_getr (ht : mm_mt[y]? = some t) {i f k fi a : Nat} (hd : decode t.2.1 pc = .ok (.getfield i, 3)) (h : decide (t.2.2.2.2 = 13) = false) (hl : mm_fd mm_FL t.2.2.2.2 i = some (f, k, 2, fi)) (ho : mm_obj S a f = true) : mm_ex d y pc ls (.ref a :: st) S = mm_ex d y (pc + 3) ls (mm_rv (mm_R S a k) :: st) S := mx_getf ht hd h hl (by unfold mm_gf; rw [if_pos ho]; rfl)
theorem mx_putf (ht : mm_mt[y]? = some t) {i f k tg fi a : Nat} {v : Value} {S1 : mm_S} (hd : decode t.2.1 pc = .ok (.putfield i, 3)) (hl : mm_fd mm_FL t.2.2.2.2 i = some (f, k, tg, fi)) (hi : (decide (fi = 0) || (decide (t.1.name = "<init>") && decide ((mm_T f k).1 = t.1.cls))) = true) (hg : mm_pf S f k tg a v = some S1) (hm : mm_n S ≤ mm_n S1 ∧ mm_z S ≤ mm_z S1) : mm_ex d y pc ls (v :: .ref a :: st) S = mm_ex d y (pc + 3) ls st S1 := by
  have e : mm_st d t pc ls (v :: .ref a :: st) S (.putfield i) = mm_go (pc + 3) ls st S1 := by
    unfold mm_st mm_pr
    simp only [hl, hg, hi, mm_gd, if_true]
  exact mm_ex_go ht hd rfl e hm
theorem mx_puti (ht : mm_mt[y]? = some t) {i f k fi a : Nat} {x : Int32} (hd : decode t.2.1 pc = .ok (.putfield i, 3)) (hl : mm_fd mm_FL t.2.2.2.2 i = some (f, k, 0, fi)) (hi : (decide (fi = 0) || (decide (t.1.name = "<init>") && decide ((mm_T f k).1 = t.1.cls))) = true) (ho : mm_obj S a f = true) : mm_ex d y pc ls (.int x :: .ref a :: st) S = mm_ex d y (pc + 3) ls st (mm_sM S a (mm_u (mm_M S a) k x)) := mx_putf ht hd hl hi (by unfold mm_pf; exact if_pos ho) mm_nn
theorem mx_putz (ht : mm_mt[y]? = some t) {i f k fi a : Nat} {x : Int32} (hd : decode t.2.1 pc = .ok (.putfield i, 3)) (hl : mm_fd mm_FL t.2.2.2.2 i = some (f, k, 3, fi)) (hi : (decide (fi = 0) || (decide (t.1.name = "<init>") && decide ((mm_T f k).1 = t.1.cls))) = true) (ho : mm_obj S a f = true) (hx : x = 0 ∨ x = 1) : mm_ex d y pc ls (.int x :: .ref a :: st) S = mm_ex d y (pc + 3) ls st (mm_sM S a (mm_u (mm_M S a) k x)) := mx_putf ht hd hl hi (by unfold mm_pf; rw [if_pos ho]; exact if_pos hx) mm_nn
theorem mx_putj (ht : mm_mt[y]? = some t) {i f k fi a : Nat} {x : Int64} (hd : decode t.2.1 pc = .ok (.putfield i, 3)) (hl : mm_fd mm_FL t.2.2.2.2 i = some (f, k, 1, fi)) (hi : (decide (fi = 0) || (decide (t.1.name = "<init>") && decide ((mm_T f k).1 = t.1.cls))) = true) (ho : mm_obj S a f = true) : mm_ex d y pc ls (.long x :: .ref a :: st) S = mm_ex d y (pc + 3) ls st (mm_sL S a (mm_u (mm_L S a) k x)) := mx_putf ht hd hl hi (by unfold mm_pf; exact if_pos ho) mm_nn
theorem mx_putr (ht : mm_mt[y]? = some t) {i f k fi a b : Nat} (hd : decode t.2.1 pc = .ok (.putfield i, 3)) (hl : mm_fd mm_FL t.2.2.2.2 i = some (f, k, 2, fi)) (hi : (decide (fi = 0) || (decide (t.1.name = "<init>") && decide ((mm_T f k).1 = t.1.cls))) = true) (ho : mm_obj S a f = true) (hb : b < mm_n S) : mm_ex d y pc ls (.ref b :: .ref a :: st) S = mm_ex d y (pc + 3) ls st (mm_sR S a (mm_u (mm_R S a) k (some b))) := mx_putf ht hd hl hi (by unfold mm_pf; rw [if_pos ho]; exact if_pos hb) mm_nn
theorem mm_and2 {a b : Bool} (h1 : a = true) (h2 : b = true) : (a && b) = true := by rw [h1, h2]; rfl
theorem mx_iald (ht : mm_mt[y]? = some t) {a : Nat} {i : Int32} (hd : decode t.2.1 pc = .ok (.iaload, 1)) (h1 : mm_arr S a 13 = true) (h2 : mm_inb i (mm_N S a) = true) : mm_ex d y pc ls (.int i :: .ref a :: st) S = mm_ex d y (pc + 1) ls (.int (mm_M S a i.toNatClampNeg) :: st) S := mm_ex_go ht hd rfl ((if_pos h1).trans (mm_gdt h2)) mm_nn
theorem mx_isc (ht : mm_mt[y]? = some t) {i : Int32} (hd : decode t.2.1 pc = .ok (.iaload, 1)) (h1 : mm_arr S mm_SC 13 = false) (h0 : t.2.2.2.2 = 17) (h2 : mm_inb i (mm_N S mm_SC) = true) : mm_ex d y pc ls (.int i :: .ref mm_SC :: st) S = mm_ex d y (pc + 1) ls (.int (mm_M S mm_SC i.toNatClampNeg) :: st) S := mm_ex_go ht hd rfl ((if_neg (by rw [h1]; decide)).trans (mm_gdt (by simp [h0, h2]))) mm_nn
theorem mx_lald (ht : mm_mt[y]? = some t) {a : Nat} {i : Int32} (hd : decode t.2.1 pc = .ok (.laload, 1)) (h1 : mm_arr S a 14 = true) (h2 : mm_inb i (mm_N S a) = true) : mm_ex d y pc ls (.int i :: .ref a :: st) S = mm_ex d y (pc + 1) ls (.long (mm_L S a i.toNatClampNeg) :: st) S := mm_ex_go ht hd rfl (mm_gdt (mm_and2 h1 h2)) mm_nn
theorem mx_zald (ht : mm_mt[y]? = some t) {a : Nat} {i : Int32} (hd : decode t.2.1 pc = .ok (.baload, 1)) (h1 : mm_arr S a 15 = true) (h2 : mm_inb i (mm_N S a) = true) : mm_ex d y pc ls (.int i :: .ref a :: st) S = mm_ex d y (pc + 1) ls (.int (mm_M S a i.toNatClampNeg) :: st) S := mm_ex_go ht hd rfl ((if_pos h1).trans (mm_gdt h2)) mm_nn
theorem mx_bald (ht : mm_mt[y]? = some t) {a : Nat} {i : Int32} (hd : decode t.2.1 pc = .ok (.baload, 1)) (h1 : mm_arr S a 15 = false) (hB : mm_isB a = true) (h2 : mm_inb i (mm_by a).length = true) : mm_ex d y pc ls (.int i :: .ref a :: st) S = mm_ex d y (pc + 1) ls (.int ((mm_by a).getD i.toNatClampNeg 0) :: st) S := mm_ex_go ht hd rfl ((if_neg (by rw [h1]; decide)).trans (mm_gdt (by rw [hB, h2]; rfl))) mm_nn
theorem mx_qald (ht : mm_mt[y]? = some t) {a : Nat} {i : Int32} (hd : decode t.2.1 pc = .ok (.aaload, 1)) (h1 : (mm_arr S a 16 || mm_arr S a 17 || mm_arr S a 18) = true) (h2 : mm_inb i (mm_N S a) = true) : mm_ex d y pc ls (.int i :: .ref a :: st) S = mm_ex d y (pc + 1) ls (mm_rv (mm_R S a i.toNatClampNeg) :: st) S := mm_ex_go ht hd rfl (mm_gdt (mm_and2 h1 h2)) mm_nn
theorem mx_iast (ht : mm_mt[y]? = some t) {a : Nat} {i x : Int32} (hd : decode t.2.1 pc = .ok (.iastore, 1)) (h1 : mm_arr S a 13 = true) (h2 : mm_inb i (mm_N S a) = true) : mm_ex d y pc ls (.int x :: .int i :: .ref a :: st) S = mm_ex d y (pc + 1) ls st (mm_sM S a (mm_u (mm_M S a) i.toNatClampNeg x)) := mm_ex_go ht hd rfl (mm_gdt (mm_and2 h1 h2)) mm_nn
theorem mx_last (ht : mm_mt[y]? = some t) {a : Nat} {i : Int32} {x : Int64} (hd : decode t.2.1 pc = .ok (.lastore, 1)) (h1 : mm_arr S a 14 = true) (h2 : mm_inb i (mm_N S a) = true) : mm_ex d y pc ls (.long x :: .int i :: .ref a :: st) S = mm_ex d y (pc + 1) ls st (mm_sL S a (mm_u (mm_L S a) i.toNatClampNeg x)) := mm_ex_go ht hd rfl (mm_gdt (mm_and2 h1 h2)) mm_nn
theorem mx_zast (ht : mm_mt[y]? = some t) {a : Nat} {i x : Int32} (hd : decode t.2.1 pc = .ok (.bastore, 1)) (h1 : mm_arr S a 15 = true) (h2 : mm_inb i (mm_N S a) = true) : mm_ex d y pc ls (.int x :: .int i :: .ref a :: st) S = mm_ex d y (pc + 1) ls st (mm_sM S a (mm_u (mm_M S a) i.toNatClampNeg (vp_nar .boolean x))) := mm_ex_go ht hd rfl (mm_gdt (mm_and2 h1 h2)) mm_nn
theorem mx_qastN (ht : mm_mt[y]? = some t) {a : Nat} {i : Int32} (hd : decode t.2.1 pc = .ok (.aastore, 1)) (h1 : (mm_arr S a 16 || mm_arr S a 17 || mm_arr S a 18) = true) (h2 : mm_inb i (mm_N S a) = true) : mm_ex d y pc ls (.null :: .int i :: .ref a :: st) S = mm_ex d y (pc + 1) ls st (mm_sR S a (mm_u (mm_R S a) i.toNatClampNeg none)) := mm_ex_go ht hd rfl (mm_gdt (mm_and2 h1 h2)) mm_nn
theorem mx_qast (ht : mm_mt[y]? = some t) {a b : Nat} {i : Int32} (hd : decode t.2.1 pc = .ok (.aastore, 1)) (h1 : (mm_arr S a 16 || mm_arr S a 17 || mm_arr S a 18) = true) (h2 : mm_inb i (mm_N S a) = true) (h3 : mm_obj S b (if mm_K S a = 16 then 0 else if mm_K S a = 17 then 6 else 8) = true) : mm_ex d y pc ls (.ref b :: .int i :: .ref a :: st) S = mm_ex d y (pc + 1) ls st (mm_sR S a (mm_u (mm_R S a) i.toNatClampNeg (some b))) := mm_ex_go ht hd rfl ((mm_gdt (mm_and2 h1 h2)).trans (mm_gdt h3)) mm_nn
theorem mx_alen (ht : mm_mt[y]? = some t) {a : Nat} (hd : decode t.2.1 pc = .ok (.arraylength, 1)) (h1 : (decide (a < mm_n S) && decide (13 ≤ mm_K S a) && decide (mm_K S a < 19)) = true) : mm_ex d y pc ls (.ref a :: st) S = mm_ex d y (pc + 1) ls (.int (nI (mm_N S a)) :: st) S := mm_ex_go ht hd rfl (if_pos h1) mm_nn
theorem mx_aleni (ht : mm_mt[y]? = some t) {a : Nat} (hd : decode t.2.1 pc = .ok (.arraylength, 1)) (h1 : mm_arr S a 13 = true) : mm_ex d y pc ls (.ref a :: st) S = mm_ex d y (pc + 1) ls (.int (nI (mm_N S a)) :: st) S := mx_alen ht hd (by
  obtain ⟨h2, h3⟩ := mm_arr_sp h1
  simp [h2, h3])
theorem mx_alenB (ht : mm_mt[y]? = some t) {a : Nat} (hd : decode t.2.1 pc = .ok (.arraylength, 1)) (h1 : (decide (a < mm_n S) && decide (13 ≤ mm_K S a) && decide (mm_K S a < 19)) = false) (hB : mm_isB a = true) : mm_ex d y pc ls (.ref a :: st) S = mm_ex d y (pc + 1) ls (.int (nI (mm_by a).length) :: st) S := mm_ex_go ht hd rfl ((if_neg (by rw [h1]; decide)).trans (if_pos hB)) mm_nn
theorem mx_alenS (ht : mm_mt[y]? = some t) (hd : decode t.2.1 pc = .ok (.arraylength, 1)) (h1 : (decide (mm_SC < mm_n S) && decide (13 ≤ mm_K S mm_SC) && decide (mm_K S mm_SC < 19)) = false) (h0 : t.2.2.2.2 = 17) : mm_ex d y pc ls (.ref mm_SC :: st) S = mm_ex d y (pc + 1) ls (.int (nI (mm_N S mm_SC)) :: st) S := mm_ex_go ht hd rfl ((if_neg (by rw [h1]; decide)).trans ((if_neg (by decide)).trans (mm_gdt (by simp [h0])))) mm_nn
theorem mm_nwle {k n : Nat} : mm_n S ≤ mm_n (mm_nw S k n) ∧ mm_z S ≤ mm_z (mm_nw S k n) := ⟨Nat.le_succ _, Nat.le_add_right _ _⟩
theorem mx_newi (ht : mm_mt[y]? = some t) {n : Int32} (hd : decode t.2.1 pc = .ok (.newarray .int, 2)) (h : (!decide (n < 0) && decide (n.toNatClampNeg ≤ 1000) && decide (mm_n S < 1000000)) = true) : mm_ex d y pc ls (.int n :: st) S = mm_ex d y (pc + 2) ls (.ref (mm_n S) :: st) (mm_nw S 13 n.toNatClampNeg) := mm_ex_go ht hd rfl (mm_gdt h) mm_nwle
theorem mx_newj (ht : mm_mt[y]? = some t) {n : Int32} (hd : decode t.2.1 pc = .ok (.newarray .long, 2)) (h : (!decide (n < 0) && decide (n.toNatClampNeg ≤ 1000) && decide (mm_n S < 1000000)) = true) : mm_ex d y pc ls (.int n :: st) S = mm_ex d y (pc + 2) ls (.ref (mm_n S) :: st) (mm_nw S 14 n.toNatClampNeg) := mm_ex_go ht hd rfl (mm_gdt h) mm_nwle
theorem mx_newz (ht : mm_mt[y]? = some t) {n : Int32} (hd : decode t.2.1 pc = .ok (.newarray .boolean, 2)) (h : (!decide (n < 0) && decide (n.toNatClampNeg ≤ 1000) && decide (mm_n S < 1000000)) = true) : mm_ex d y pc ls (.int n :: st) S = mm_ex d y (pc + 2) ls (.ref (mm_n S) :: st) (mm_nw S 15 n.toNatClampNeg) := mm_ex_go ht hd rfl (mm_gdt h) mm_nwle
theorem mx_newq (ht : mm_mt[y]? = some t) {n : Int32} {i k : Nat} (hd : decode t.2.1 pc = .ok (.anewarray i, 3)) (hl : mm_fd mm_AN t.2.2.2.2 i = some k) (h : (!decide (n < 0) && decide (n.toNatClampNeg ≤ 1000) && decide (mm_n S < 1000000)) = true) : mm_ex d y pc ls (.int n :: st) S = mm_ex d y (pc + 3) ls (.ref (mm_n S) :: st) (mm_nw S k n.toNatClampNeg) := mm_ex_go ht hd rfl ((mm_gdt h).trans (by simp only [hl])) mm_nwle
theorem mx_new (ht : mm_mt[y]? = some t) {i k n : Nat} (hd : decode t.2.1 pc = .ok (.new i, 3)) (hl : mm_fd mm_NW t.2.2.2.2 i = some k) (hn : mm_NF k = n) (h : decide (mm_n S < 1000000) = true) : mm_ex d y pc ls st S = mm_ex d y (pc + 3) ls (.ref (mm_n S) :: st) (mm_nw S k n) := by
  subst hn
  exact mm_ex_go ht hd rfl ((mm_gdt h).trans (by simp only [hl])) mm_nwle
theorem mx_inst (ht : mm_mt[y]? = some t) {i a : Nat} {e : String × List Nat} (hd : decode t.2.1 pc = .ok (.instanceof i, 3)) (hl : mm_fd mm_IO t.2.2.2.2 i = some e) (h : mm_obj S a 0 = true) : mm_ex d y pc ls (.ref a :: st) S = mm_ex d y (pc + 3) ls (.int (if mm_K S a ∈ e.2 then 1 else 0) :: st) S := by
  have e1 : mm_st d t pc ls (.ref a :: st) S (.instanceof i) = mm_go (pc + 3) ls (.int (if mm_K S a ∈ e.2 then 1 else 0) :: st) S := by
    unfold mm_st mm_r1
    simp only [hl, mm_gdt h]
  exact mm_ex_go ht hd rfl e1 mm_nn
theorem mx_oinit (ht : mm_mt[y]? = some t) {i a : Nat} (hd : decode t.2.1 pc = .ok (.invokespecial i, 3)) (hl : mm_fd mm_OI t.2.2.2.2 i = some ()) (hc : mm_cs st ≤ 8) : mm_ex (d + 1) y pc ls (.ref a :: st) S = mm_ex (d + 1) y (pc + 3) ls st S := by
  have e1 : mm_st (d + 1) t pc ls (.ref a :: st) S (.invokespecial i) = mm_go (pc + 3) ls st S := by
    unfold mm_st mm_r1
    simp only [hl]
    exact mm_gdt (by simp [hc])
  exact mm_ex_go ht hd rfl e1 mm_nn
theorem mx_cpi (ht : mm_mt[y]? = some t) {i a a0 : Nat} {sp dp n : Int32} (hd : decode t.2.1 pc = .ok (.invokestatic i, 3)) (hl : mm_fd mm_AC t.2.2.2.2 i = some ()) (hc : mm_cs st ≤ 8) (h1 : mm_arr S a0 13 = true) (h2 : mm_arr S a 13 = true) (h3 : mm_cpOk sp dp n (mm_N S a0) (mm_N S a) = true) : mm_ex (d + 1) y pc ls (.int n :: .int dp :: .ref a :: .int sp :: .ref a0 :: st) S = mm_ex (d + 1) y (pc + 3) ls st (mm_sM S a (va_cpy (mm_M S a0) (mm_M S a) sp.toNatClampNeg dp.toNatClampNeg n.toNatClampNeg)) := by
  have e1 : mm_st (d + 1) t pc ls (.int n :: .int dp :: .ref a :: .int sp :: .ref a0 :: st) S (.invokestatic i) = mm_go (pc + 3) ls st (mm_sM S a (va_cpy (mm_M S a0) (mm_M S a) sp.toNatClampNeg dp.toNatClampNeg n.toNatClampNeg)) := by
    unfold mm_st mm_i2 mm_r1 mm_i1
    simp only [hl]
    refine (mm_gdt (by simp [hc])).trans (if_pos ?_)
    rw [h1, h2, h3]; rfl
  exact mm_ex_go ht hd rfl e1 mm_nn
theorem mx_cpl (ht : mm_mt[y]? = some t) {i a a0 : Nat} {sp dp n : Int32} (hd : decode t.2.1 pc = .ok (.invokestatic i, 3)) (hl : mm_fd mm_AC t.2.2.2.2 i = some ()) (hc : mm_cs st ≤ 8) (h1 : mm_arr S a0 14 = true) (h2 : mm_arr S a 14 = true) (h3 : mm_cpOk sp dp n (mm_N S a0) (mm_N S a) = true) : mm_ex (d + 1) y pc ls (.int n :: .int dp :: .ref a :: .int sp :: .ref a0 :: st) S = mm_ex (d + 1) y (pc + 3) ls st (mm_sL S a (va_cpy (mm_L S a0) (mm_L S a) sp.toNatClampNeg dp.toNatClampNeg n.toNatClampNeg)) := by
  have e1 : mm_st (d + 1) t pc ls (.int n :: .int dp :: .ref a :: .int sp :: .ref a0 :: st) S (.invokestatic i) = mm_go (pc + 3) ls st (mm_sL S a (va_cpy (mm_L S a0) (mm_L S a) sp.toNatClampNeg dp.toNatClampNeg n.toNatClampNeg)) := by
    unfold mm_st mm_i2 mm_r1 mm_i1
    simp only [hl]
    have h0 : mm_arr S a0 13 = false := by
      obtain ⟨-, hk⟩ := mm_arr_sp h1
      unfold mm_arr
      simp [hk]
    refine (mm_gdt (by simp [hc])).trans ((if_neg ?_).trans (if_pos ?_))
    · rw [h0]; simp
    · rw [h1, h2, h3]; rfl
  exact mm_ex_go ht hd rfl e1 mm_nn
theorem mx_math (ht : mm_mt[y]? = some t) {i k : Nat} {a b : Int32} (hd : decode t.2.1 pc = .ok (.invokestatic i, 3)) (hl0 : mm_fd mm_AC t.2.2.2.2 i = none) (hl : mm_fd mm_MX t.2.2.2.2 i = some k) (hc : mm_cs st ≤ 8) : mm_ex (d + 1) y pc ls (.int b :: .int a :: st) S = mm_ex (d + 1) y (pc + 3) ls (.int (if k = 0 then (if b < a then b else a) else (if a < b then b else a)) :: st) S := by
  have e1 : mm_st (d + 1) t pc ls (.int b :: .int a :: st) S (.invokestatic i) = mm_go (pc + 3) ls (.int (if k = 0 then (if b < a then b else a) else (if a < b then b else a)) :: st) S := by
    unfold mm_st mm_i2
    simp only [hl0, hl]
    exact mm_gdt (by simp [hc])
  exact mm_ex_go ht hd rfl e1 mm_nn
theorem mx_stat (ht : mm_mt[y]? = some t) {i na z : Nat} (as : List Value) (hd : decode t.2.1 pc = .ok (.invokestatic i, 3)) (hl0 : mm_fd mm_AC t.2.2.2.2 i = none) (hl1 : mm_fd mm_MX t.2.2.2.2 i = none) (hl : mm_fd mm_ST t.2.2.2.2 i = some (na, z)) (hn : as.length = na) (hz : z < mm_nc) (hc : mm_cs st ≤ 8) : mm_ex (d + 1) y pc ls (as.reverse ++ st) S = mm_bd (mm_cl d z as S) (fun v S2 => mm_ex (d + 1) y (pc + 3) ls (v.toList ++ st) S2) := by
  have hr : as.reverse.length = na := by rw [List.length_reverse]; exact hn
  have e1 : mm_st (d + 1) t pc ls (as.reverse ++ st) S (.invokestatic i) = mm_ca z as st S := by
    unfold mm_st
    simp only [hl0, hl1, hl]
    rw [List.take_left' hr, List.drop_left' hr, List.reverse_reverse]
    exact mm_gdt (by simp [hc]; omega)
  exact mm_ex_ca ht hd rfl e1 rfl mm_nn hz
theorem mx_virt (ht : mm_mt[y]? = some t) {i na z k a : Nat} {l : List (Nat × Nat)} (as : List Value) (hd : decode t.2.1 pc = .ok (.invokevirtual i, 3)) (hl : mm_fd mm_VT t.2.2.2.2 i = some (na, l)) (hk : mm_lu l k = some z) (hn : as.length = na) (hz : z < mm_nc) (hc : mm_cs st ≤ 8) (hr : mm_rk S a = k) : mm_ex (d + 1) y pc ls (as.reverse ++ .ref a :: st) S = mm_bd (mm_cl d z (.ref a :: as) S) (fun v S2 => mm_ex (d + 1) y (pc + 3) ls (v.toList ++ st) S2) := by
  have hr1 : as.reverse.length = na := by rw [List.length_reverse]; exact hn
  have e1 : mm_st (d + 1) t pc ls (as.reverse ++ .ref a :: st) S (.invokevirtual i) = mm_ca z (.ref a :: as) st S := by
    unfold mm_st
    simp only [hl]
    rw [List.take_left' hr1, List.drop_left' hr1, List.reverse_reverse]
    refine (mm_gdt (by simp; omega)).trans ?_
    simp only [mm_r1, hr, hk]
    exact mm_gdt (by simp [hc])
  exact mm_ex_ca ht hd rfl e1 rfl mm_nn hz
theorem mx_spec (ht : mm_mt[y]? = some t) {i na z srt a : Nat} (as : List Value) (hd : decode t.2.1 pc = .ok (.invokespecial i, 3)) (hl0 : mm_fd mm_OI t.2.2.2.2 i = none) (hl : mm_fd mm_SP t.2.2.2.2 i = some (na, z, srt)) (hn : as.length = na) (hz : z < mm_nc) (hc : mm_cs st ≤ 8) (hr : (decide (a < mm_n S) && decide (mm_K S a < 13)) = true) : mm_ex (d + 1) y pc ls (as.reverse ++ .ref a :: st) S = mm_bd (mm_cl d z (.ref a :: as) S) (fun v S2 => mm_ex (d + 1) y (pc + 3) ls (v.toList ++ st) S2) := by
  have hr1 : as.reverse.length = na := by rw [List.length_reverse]; exact hn
  have e1 : mm_st (d + 1) t pc ls (as.reverse ++ .ref a :: st) S (.invokespecial i) = mm_ca z (.ref a :: as) st S := by
    unfold mm_st
    simp only [hl0, hl]
    rw [List.take_left' hr1, List.drop_left' hr1, List.reverse_reverse]
    refine (mm_gdt (by simp; omega)).trans ?_
    simp only [mm_r1]
    rw [Bool.and_eq_true] at hr
    exact mm_gdt (by simp only [hc, decide_true, Bool.true_and]; rw [hr.1, hr.2]; rfl)
  exact mm_ex_ca ht hd rfl e1 rfl mm_nn hz
theorem mx_iret (ht : mm_mt[y]? = some t) {ty : FieldType} {x : Int32} (hd : decode t.2.1 pc = .ok (.ireturn, 1)) (hr : t.2.2.2.1 = some ty) (h : narrow ty (.int x) = .int x) (hy : ty ≠ .long) : mm_ex d y pc ls [.int x] S = some (some (.int x), S) := by
  have e1 : mm_st d t pc ls [.int x] S .ireturn = mm_rt (some (.int x)) S := by
    show mm_ire [.int x] t.2.2.2.1 S = _
    rw [hr]
    exact if_pos ⟨h, hy⟩
  exact mm_ex_rt ht hd rfl e1 rfl mm_nn
theorem mx_lret (ht : mm_mt[y]? = some t) {x : Int64} (hd : decode t.2.1 pc = .ok (.lreturn, 1)) (hr : t.2.2.2.1 = some .long) : mm_ex d y pc ls [.long x] S = some (some (.long x), S) := by
  have e1 : mm_st d t pc ls [.long x] S .lreturn = mm_rt (some (.long x)) S := by
    show mm_lre [.long x] t.2.2.2.1 S = _
    rw [hr]; rfl
  exact mm_ex_rt ht hd rfl e1 rfl mm_nn
theorem mx_aret (ht : mm_mt[y]? = some t) {n : String} {a : Nat} (hd : decode t.2.1 pc = .ok (.areturn, 1)) (hr : t.2.2.2.1 = some (.object n)) : mm_ex d y pc ls [.ref a] S = some (some (.ref a), S) := by
  have e1 : mm_st d t pc ls [.ref a] S .areturn = mm_rt (some (.ref a)) S := by
    show mm_are [.ref a] t.2.2.2.1 S = _
    rw [hr]; rfl
  exact mm_ex_rt ht hd rfl e1 rfl mm_nn
theorem mx_vret (ht : mm_mt[y]? = some t) (hd : decode t.2.1 pc = .ok (.return_, 1)) (hr : t.2.2.2.1 = none) : mm_ex d y pc ls [] S = some (none, S) := by
  have e1 : mm_st d t pc ls [] S .return_ = mm_rt none S := by
    show mm_vre [] t.2.2.2.1 S = _
    rw [hr]; rfl
  exact mm_ex_rt ht hd rfl e1 rfl mm_nn
theorem mm_cl_eq (ht : mm_mt[y]? = some t) {as ls' : List Value} (hf : (mm_as as).length ≤ t.2.2.1) (he : mm_en t.2.2.1 as = ls') : mm_cl d y as S = mm_ex d y 0 ls' [] S := by
  subst he
  unfold mm_cl
  simp only [ht]
  exact if_pos hf
theorem mm_nz {x : Int32} (h : x = 0 ∨ x = 1) : narrow .boolean (.int x) = .int x := by rcases h with rfl | rfl <;> rfl
end MX
end
