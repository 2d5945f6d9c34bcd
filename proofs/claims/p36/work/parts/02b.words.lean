theorem gw_350 : (Jvm.Cond.code ({ cls := "PennyMore", name := "weightOf", desc := "(I)J" } : Jvm.MethodName) prog_1_method_53_code (5 : Nat) (Option.some Jvm.ClassFile.FieldType.long)) ∈ mm_G := mm_gi_4 (i := 113) rfl rfl
theorem gw_351 : (Jvm.Cond.code ({ cls := "PennyMore", name := "swapInLineup", desc := "(II)V" } : Jvm.MethodName) prog_1_method_52_code (4 : Nat) (Option.none : Option Jvm.ClassFile.FieldType)) ∈ mm_G := mm_gi_4 (i := 62) rfl rfl
theorem gw_352 : (Jvm.Cond.code ({ cls := "PennyMore", name := "nextLineup", desc := "()Z" } : Jvm.MethodName) prog_1_method_51_code (5 : Nat) (Option.some Jvm.ClassFile.FieldType.boolean)) ∈ mm_G := mm_gi_4 (i := 58) rfl rfl
theorem gw_353 : (Jvm.Cond.code ({ cls := "PennyMore", name := "standAsLineup", desc := "()V" } : Jvm.MethodName) prog_1_method_50_code (1 : Nat) (Option.none : Option Jvm.ClassFile.FieldType)) ∈ mm_G := mm_gi_4 (i := 53) rfl rfl
theorem gw_354 : (Jvm.Cond.code ({ cls := "PennyMore", name := "startLineups", desc := "()V" } : Jvm.MethodName) prog_1_method_49_code (3 : Nat) (Option.none : Option Jvm.ClassFile.FieldType)) ∈ mm_G := mm_gi_4 (i := 49) rfl rfl
theorem gw_355 : (Jvm.Cond.code ({ cls := "PennyMoreModel", name := "above", desc := "(I)I" } : Jvm.MethodName) prog_14_method_74_code (1 : Nat) (Option.some Jvm.ClassFile.FieldType.int)) ∈ mm_G := mm_gi_7 (i := 91) rfl rfl
theorem gw_356 : (Jvm.Cond.code ({ cls := "PennyMoreModel", name := "runs", desc := "(I)V" } : Jvm.MethodName) prog_14_method_73_code (2 : Nat) (Option.none : Option Jvm.ClassFile.FieldType)) ∈ mm_G := mm_gi_7 (i := 88) rfl rfl
theorem gw_357 : (Jvm.Cond.code ({ cls := "PennyMoreModel", name := "undo", desc := "()I" } : Jvm.MethodName) prog_14_method_72_code (2 : Nat) (Option.some Jvm.ClassFile.FieldType.int)) ∈ mm_G := mm_gi_7 (i := 76) rfl rfl
theorem gw_358 : (Jvm.Cond.code ({ cls := "PennyMoreModel", name := "image", desc := "()I" } : Jvm.MethodName) prog_14_method_71_code (2 : Nat) (Option.some Jvm.ClassFile.FieldType.int)) ∈ mm_G := mm_gi_7 (i := 72) rfl rfl
theorem gw_359 : (Jvm.Cond.code ({ cls := "PennyMoreModel", name := "judge", desc := "(II)I" } : Jvm.MethodName) prog_14_method_70_code (5 : Nat) (Option.some Jvm.ClassFile.FieldType.int)) ∈ mm_G := mm_gi_7 (i := 64) rfl rfl
theorem gw_360 : (Jvm.Cond.code ({ cls := "PennyMoreModel", name := "isTape", desc := "(I)Z" } : Jvm.MethodName) prog_14_method_69_code (2 : Nat) (Option.some Jvm.ClassFile.FieldType.boolean)) ∈ mm_G := mm_gi_7 (i := 68) rfl rfl
theorem gw_361 : (Jvm.Cond.code ({ cls := "PennyMoreModel", name := "off", desc := "()I" } : Jvm.MethodName) prog_14_method_68_code (4 : Nat) (Option.some Jvm.ClassFile.FieldType.int)) ∈ mm_G := mm_gi_7 (i := 60) rfl rfl
theorem gw_362 : (Jvm.Cond.code ({ cls := "PennyMoreModel", name := "film", desc := "(I)I" } : Jvm.MethodName) prog_14_method_67_code (2 : Nat) (Option.some Jvm.ClassFile.FieldType.int)) ∈ mm_G := mm_gi_7 (i := 56) rfl rfl
theorem gw_363 : (Jvm.Cond.code ({ cls := "PennyMoreModel", name := "sure", desc := "(II)J" } : Jvm.MethodName) prog_14_method_66_code (3 : Nat) (Option.some Jvm.ClassFile.FieldType.long)) ∈ mm_G := mm_gi_7 (i := 38) rfl rfl
theorem gw_364 : (Jvm.Cond.code ({ cls := "PennyMoreModel", name := "slipsOn", desc := "(IIJ)V" } : Jvm.MethodName) prog_14_method_65_code (8 : Nat) (Option.none : Option Jvm.ClassFile.FieldType)) ∈ mm_G := mm_gi_7 (i := 43) rfl rfl
theorem gw_365 : (Jvm.Cond.code ({ cls := "PennyMoreModel", name := "laysAt", desc := "(I)V" } : Jvm.MethodName) prog_14_method_64_code (3 : Nat) (Option.none : Option Jvm.ClassFile.FieldType)) ∈ mm_G := mm_gi_7 (i := 52) rfl rfl
theorem gw_366 : (Jvm.Cond.code ({ cls := "PennyMoreModel", name := "keepsAt", desc := "(I)V" } : Jvm.MethodName) prog_14_method_63_code (3 : Nat) (Option.none : Option Jvm.ClassFile.FieldType)) ∈ mm_G := mm_gi_7 (i := 47) rfl rfl
theorem gw_367 : (Jvm.Cond.code ({ cls := "PennyMoreModel", name := "slips", desc := "(I)I" } : Jvm.MethodName) prog_14_method_62_code (3 : Nat) (Option.some Jvm.ClassFile.FieldType.int)) ∈ mm_G := mm_gi_7 (i := 34) rfl rfl
theorem gw_368 : (Jvm.Cond.code ({ cls := "PennyMoreModel", name := "aunt", desc := "(I)I" } : Jvm.MethodName) prog_14_method_61_code (2 : Nat) (Option.some Jvm.ClassFile.FieldType.int)) ∈ mm_G := mm_gi_7 (i := 25) rfl rfl
theorem gw_369 : (Jvm.Cond.code ({ cls := "PennyMoreModel", name := "othersGain", desc := "(IZ)I" } : Jvm.MethodName) prog_14_method_60_code (5 : Nat) (Option.some Jvm.ClassFile.FieldType.int)) ∈ mm_G := mm_gi_7 (i := 30) rfl rfl
theorem gw_370 : (Jvm.Cond.code ({ cls := "PennyMoreModel", name := "onePrice", desc := "(I)I" } : Jvm.MethodName) prog_14_method_59_code (7 : Nat) (Option.some Jvm.ClassFile.FieldType.int)) ∈ mm_G := mm_gi_7 (i := 21) rfl rfl
theorem gw_371 : (Jvm.Cond.code ({ cls := "PennyMoreModel", name := "fee", desc := "()I" } : Jvm.MethodName) prog_14_method_58_code (3 : Nat) (Option.some Jvm.ClassFile.FieldType.int)) ∈ mm_G := mm_gi_7 (i := 17) rfl rfl
theorem gw_372 : (Jvm.Cond.code ({ cls := "PennyMoreModel", name := "lot", desc := "(I)J" } : Jvm.MethodName) prog_14_method_57_code (5 : Nat) (Option.some Jvm.ClassFile.FieldType.long)) ∈ mm_G := mm_gi_7 (i := 9) rfl rfl
theorem gw_373 : (Jvm.Cond.code ({ cls := "PennyMoreModel", name := "lowest", desc := "(JJI)J" } : Jvm.MethodName) prog_14_method_56_code (11 : Nat) (Option.some Jvm.ClassFile.FieldType.long)) ∈ mm_G := mm_gi_7 (i := 13) rfl rfl
theorem gw_374 : (Jvm.Cond.code ({ cls := "PennyMoreModel", name := "letBy", desc := "(I)I" } : Jvm.MethodName) prog_14_method_55_code (11 : Nat) (Option.some Jvm.ClassFile.FieldType.int)) ∈ mm_G := mm_gi_7 (i := 5) rfl rfl
theorem gw_375 : (Jvm.Cond.code ({ cls := "PennyMoreModel", name := "order", desc := "(II)I" } : Jvm.MethodName) prog_14_method_54_code (7 : Nat) (Option.some Jvm.ClassFile.FieldType.int)) ∈ mm_G := mm_gi_6 (i := 234) rfl rfl
theorem gw_376 : (Jvm.Cond.code ({ cls := "PennyMoreModel", name := "stands", desc := "(I)V" } : Jvm.MethodName) prog_14_method_53_code (8 : Nat) (Option.none : Option Jvm.ClassFile.FieldType)) ∈ mm_G := mm_gi_7 (i := 1) rfl rfl
theorem gw_377 : (Jvm.Cond.code ({ cls := "PennyMoreModel", name := "orders", desc := "(I)I" } : Jvm.MethodName) prog_14_method_52_code (3 : Nat) (Option.some Jvm.ClassFile.FieldType.int)) ∈ mm_G := mm_gi_6 (i := 237) rfl rfl
theorem gw_378 : (Jvm.Cond.code ({ cls := "PennyMoreModel", name := "first", desc := "(I)I" } : Jvm.MethodName) prog_14_method_51_code (7 : Nat) (Option.some Jvm.ClassFile.FieldType.int)) ∈ mm_G := mm_gi_6 (i := 226) rfl rfl
theorem gw_379 : (Jvm.Cond.code ({ cls := "PennyMoreModel", name := "run", desc := "(I)I" } : Jvm.MethodName) prog_14_method_50_code (4 : Nat) (Option.some Jvm.ClassFile.FieldType.int)) ∈ mm_G := mm_gi_6 (i := 210) rfl rfl
theorem gw_380 : (Jvm.Cond.code ({ cls := "PennyMoreModel", name := "allGained", desc := "()I" } : Jvm.MethodName) prog_14_method_49_code (3 : Nat) (Option.some Jvm.ClassFile.FieldType.int)) ∈ mm_G := mm_gi_6 (i := 230) rfl rfl
theorem gw_381 : (Jvm.Cond.code ({ cls := "PennyMoreModel", name := "toTheEnd", desc := "()V" } : Jvm.MethodName) prog_14_method_48_code (1 : Nat) (Option.none : Option Jvm.ClassFile.FieldType)) ∈ mm_G := mm_gi_6 (i := 218) rfl rfl
theorem gw_382 : (Jvm.Cond.code ({ cls := "PennyMoreModel", name := "lays", desc := "()V" } : Jvm.MethodName) prog_14_method_47_code (2 : Nat) (Option.none : Option Jvm.ClassFile.FieldType)) ∈ mm_G := mm_gi_6 (i := 222) rfl rfl
theorem gw_383 : (Jvm.Cond.code ({ cls := "PennyMoreModel", name := "keeps", desc := "()V" } : Jvm.MethodName) prog_14_method_46_code (2 : Nat) (Option.none : Option Jvm.ClassFile.FieldType)) ∈ mm_G := mm_gi_6 (i := 214) rfl rfl
theorem gw_384 : (Jvm.Cond.code ({ cls := "PennyMoreModel", name := "go", desc := "()I" } : Jvm.MethodName) prog_14_method_45_code (2 : Nat) (Option.some Jvm.ClassFile.FieldType.int)) ∈ mm_G := mm_gi_6 (i := 198) rfl rfl
theorem gw_385 : (Jvm.Cond.code ({ cls := "PennyMoreModel", name := "does", desc := "(I)V" } : Jvm.MethodName) prog_14_method_44_code (9 : Nat) (Option.none : Option Jvm.ClassFile.FieldType)) ∈ mm_G := mm_gi_6 (i := 206) rfl rfl
theorem gw_386 : (Jvm.Cond.code ({ cls := "PennyMoreModel", name := "comes", desc := "()Z" } : Jvm.MethodName) prog_14_method_43_code (1 : Nat) (Option.some Jvm.ClassFile.FieldType.boolean)) ∈ mm_G := mm_gi_6 (i := 202) rfl rfl
theorem gw_387 : (Jvm.Cond.code ({ cls := "PennyMoreModel", name := "would", desc := "(I)I" } : Jvm.MethodName) prog_14_method_42_code (2 : Nat) (Option.some Jvm.ClassFile.FieldType.int)) ∈ mm_G := mm_gi_6 (i := 166) rfl rfl
theorem gw_388 : (Jvm.Cond.code ({ cls := "PennyMoreModel", name := "wouldBe", desc := "(I)I" } : Jvm.MethodName) prog_14_method_41_code (4 : Nat) (Option.some Jvm.ClassFile.FieldType.int)) ∈ mm_G := mm_gi_6 (i := 170) rfl rfl
theorem gw_389 : (Jvm.Cond.code ({ cls := "PennyMoreModel", name := "asPlain", desc := "(I)I" } : Jvm.MethodName) prog_14_method_40_code (2 : Nat) (Option.some Jvm.ClassFile.FieldType.int)) ∈ mm_G := mm_gi_6 (i := 174) rfl rfl
theorem gw_390 : (Jvm.Cond.code ({ cls := "PennyMoreModel", name := "asFalling", desc := "(I)I" } : Jvm.MethodName) prog_14_method_39_code (3 : Nat) (Option.some Jvm.ClassFile.FieldType.int)) ∈ mm_G := mm_gi_6 (i := 194) rfl rfl
theorem gw_391 : (Jvm.Cond.code ({ cls := "PennyMoreModel", name := "asWaiting", desc := "(I)I" } : Jvm.MethodName) prog_14_method_38_code (2 : Nat) (Option.some Jvm.ClassFile.FieldType.int)) ∈ mm_G := mm_gi_6 (i := 182) rfl rfl
theorem gw_392 : (Jvm.Cond.code ({ cls := "PennyMoreModel", name := "asBuyer", desc := "(I)I" } : Jvm.MethodName) prog_14_method_37_code (2 : Nat) (Option.some Jvm.ClassFile.FieldType.int)) ∈ mm_G := mm_gi_6 (i := 190) rfl rfl
theorem gw_393 : (Jvm.Cond.code ({ cls := "PennyMoreModel", name := "gainOf", desc := "(I)I" } : Jvm.MethodName) prog_14_method_36_code (2 : Nat) (Option.some Jvm.ClassFile.FieldType.int)) ∈ mm_G := mm_gi_6 (i := 178) rfl rfl
theorem gw_394 : (Jvm.Cond.code ({ cls := "PennyMoreModel", name := "mayAway", desc := "(I)Z" } : Jvm.MethodName) prog_14_method_35_code (2 : Nat) (Option.some Jvm.ClassFile.FieldType.boolean)) ∈ mm_G := mm_gi_6 (i := 186) rfl rfl
theorem gw_395 : (Jvm.Cond.code ({ cls := "jdk/internal/util/Preconditions", name := "checkIndex", desc := "(IILjava/util/function/BiFunction;)I" } : Jvm.MethodName) prog_21_method_11_code (3 : Nat) (Option.some Jvm.ClassFile.FieldType.int)) ∈ mm_G := mm_gi_3 (i := 35) rfl rfl
theorem gw_396 : (Jvm.Cond.code ({ cls := "java/lang/StringLatin1", name := "indexOfChar", desc := "([BIII)I" } : Jvm.MethodName) prog_18_method_23_code (6 : Nat) (Option.some Jvm.ClassFile.FieldType.int)) ∈ mm_G := mm_gi_3 (i := 100) rfl rfl
theorem gw_397 : (Jvm.Cond.code ({ cls := "java/lang/StringLatin1", name := "indexOf", desc := "([BIII)I" } : Jvm.MethodName) prog_18_method_22_code (4 : Nat) (Option.some Jvm.ClassFile.FieldType.int)) ∈ mm_G := mm_gi_3 (i := 88) rfl rfl
theorem gw_398 : (Jvm.Cond.code ({ cls := "java/lang/StringLatin1", name := "canEncode", desc := "(I)Z" } : Jvm.MethodName) prog_18_method_4_code (1 : Nat) (Option.some Jvm.ClassFile.FieldType.boolean)) ∈ mm_G := mm_gi_3 (i := 91) rfl rfl
theorem gw_399 : (Jvm.Cond.code ({ cls := "java/lang/StringLatin1", name := "charAt", desc := "([BI)C" } : Jvm.MethodName) prog_18_method_2_code (2 : Nat) (Option.some Jvm.ClassFile.FieldType.char)) ∈ mm_G := mm_gi_3 (i := 27) rfl rfl
theorem gw_400 : (Jvm.Cond.code ({ cls := "java/lang/String", name := "checkIndex", desc := "(II)V" } : Jvm.MethodName) prog_17_method_155_code (2 : Nat) (Option.none : Option Jvm.ClassFile.FieldType)) ∈ mm_G := mm_gi_3 (i := 30) rfl rfl
theorem gw_401 : (Jvm.Cond.code ({ cls := "java/lang/String", name := "isLatin1", desc := "()Z" } : Jvm.MethodName) prog_17_method_154_code (1 : Nat) (Option.some Jvm.ClassFile.FieldType.boolean)) ∈ mm_G := mm_gi_3 (i := 24) rfl rfl
theorem gw_402 : (Jvm.Cond.code ({ cls := "java/lang/String", name := "coder", desc := "()B" } : Jvm.MethodName) prog_17_method_152_code (1 : Nat) (Option.some Jvm.ClassFile.FieldType.byte)) ∈ mm_G := mm_gi_3 (i := 14) rfl rfl
theorem gw_403 : (Jvm.Cond.code ({ cls := "java/lang/String", name := "indexOf", desc := "(II)I" } : Jvm.MethodName) prog_17_method_80_code (3 : Nat) (Option.some Jvm.ClassFile.FieldType.int)) ∈ mm_G := mm_gi_3 (i := 84) rfl rfl
theorem gw_404 : (Jvm.Cond.code ({ cls := "java/lang/String", name := "indexOf", desc := "(I)I" } : Jvm.MethodName) prog_17_method_79_code (2 : Nat) (Option.some Jvm.ClassFile.FieldType.int)) ∈ mm_G := mm_gi_3 (i := 80) rfl rfl
theorem gw_405 : (Jvm.Cond.code ({ cls := "java/lang/String", name := "charAt", desc := "(I)C" } : Jvm.MethodName) prog_17_method_56_code (2 : Nat) (Option.some Jvm.ClassFile.FieldType.char)) ∈ mm_G := mm_gi_3 (i := 20) rfl rfl
theorem gw_406 : (Jvm.Cond.code ({ cls := "java/lang/String", name := "isEmpty", desc := "()Z" } : Jvm.MethodName) prog_17_method_55_code (1 : Nat) (Option.some Jvm.ClassFile.FieldType.boolean)) ∈ mm_G := mm_gi_3 (i := 2) rfl rfl
theorem gw_407 : (Jvm.Cond.code ({ cls := "java/lang/String", name := "length", desc := "()I" } : Jvm.MethodName) prog_17_method_54_code (1 : Nat) (Option.some Jvm.ClassFile.FieldType.int)) ∈ mm_G := mm_gi_3 (i := 10) rfl rfl
theorem gw_408 : (Jvm.Cond.code ({ cls := "PennyMoreModel", name := "shift", desc := "(IIIII)I" } : Jvm.MethodName) prog_14_method_86_code (7 : Nat) (Option.some Jvm.ClassFile.FieldType.int)) ∈ mm_G := mm_gi_7 (i := 130) rfl rfl
theorem gw_409 : (Jvm.Cond.code ({ cls := "PennyMoreModel", name := "read", desc := "(II)J" } : Jvm.MethodName) prog_14_method_85_code (3 : Nat) (Option.some Jvm.ClassFile.FieldType.long)) ∈ mm_G := mm_gi_7 (i := 126) rfl rfl
theorem gw_410 : (Jvm.Cond.code ({ cls := "PennyMoreModel", name := "item", desc := "(IIJ)I" } : Jvm.MethodName) prog_14_method_84_code (5 : Nat) (Option.some Jvm.ClassFile.FieldType.int)) ∈ mm_G := mm_gi_7 (i := 119) rfl rfl
theorem gw_411 : (Jvm.Cond.code ({ cls := "PennyMoreModel", name := "cut", desc := "(IJ)J" } : Jvm.MethodName) prog_14_method_83_code (3 : Nat) (Option.some Jvm.ClassFile.FieldType.long)) ∈ mm_G := mm_gi_7 (i := 122) rfl rfl
theorem gw_412 : (Jvm.Cond.code ({ cls := "PennyMoreModel", name := "tape", desc := "(III)I" } : Jvm.MethodName) prog_14_method_82_code (5 : Nat) (Option.some Jvm.ClassFile.FieldType.int)) ∈ mm_G := mm_gi_7 (i := 115) rfl rfl
theorem gw_413 : (Jvm.Cond.code ({ cls := "PennyMoreModel", name := "count", desc := "(I)I" } : Jvm.MethodName) prog_14_method_81_code (2 : Nat) (Option.some Jvm.ClassFile.FieldType.int)) ∈ mm_G := mm_gi_7 (i := 111) rfl rfl
theorem gw_414 : (Jvm.Cond.code ({ cls := "PennyMoreModel", name := "taken", desc := "(II)I" } : Jvm.MethodName) prog_14_method_80_code (4 : Nat) (Option.some Jvm.ClassFile.FieldType.int)) ∈ mm_G := mm_gi_7 (i := 107) rfl rfl
theorem gw_415 : (Jvm.Cond.code ({ cls := "PennyMoreModel", name := "trace", desc := "(I)I" } : Jvm.MethodName) prog_14_method_79_code (2 : Nat) (Option.some Jvm.ClassFile.FieldType.int)) ∈ mm_G := mm_gi_7 (i := 103) rfl rfl
theorem gw_416 : (Jvm.Cond.code ({ cls := "PennyMoreModel", name := "act", desc := "(III)I" } : Jvm.MethodName) prog_14_method_78_code (4 : Nat) (Option.some Jvm.ClassFile.FieldType.int)) ∈ mm_G := mm_gi_7 (i := 80) rfl rfl
theorem gw_417 : (Jvm.Cond.code ({ cls := "PennyMoreModel", name := "tellsIn", desc := "(II)I" } : Jvm.MethodName) prog_14_method_77_code (4 : Nat) (Option.some Jvm.ClassFile.FieldType.int)) ∈ mm_G := mm_gi_7 (i := 99) rfl rfl
theorem gw_418 : (Jvm.Cond.code ({ cls := "PennyMoreModel", name := "waitsIn", desc := "(II)I" } : Jvm.MethodName) prog_14_method_76_code (4 : Nat) (Option.some Jvm.ClassFile.FieldType.int)) ∈ mm_G := mm_gi_7 (i := 95) rfl rfl
theorem gw_419 : (Jvm.Cond.code ({ cls := "PennyMoreModel", name := "bids", desc := "(II)I" } : Jvm.MethodName) prog_14_method_75_code (3 : Nat) (Option.some Jvm.ClassFile.FieldType.int)) ∈ mm_G := mm_gi_7 (i := 84) rfl rfl
theorem gw_420 : (Jvm.Cond.methodLink "PennyMore$Buyer" (30 : Nat) ({ cls := "PennyMore$Buyer", name := "note", desc := "([II)V" } : Jvm.MethodName)) ∈ mm_G := mm_gi_4 (i := 180) rfl rfl
theorem gw_421 : (Jvm.Cond.static ({ cls := "PennyMore$Buyer", name := "note", desc := "([II)V" } : Jvm.MethodName)) ∈ mm_G := mm_gi_4 (i := 159) rfl rfl
theorem gw_422 : (Jvm.Cond.initialized "PennyMore$Buyer") ∈ mm_G := mm_gi_1 (i := 7) rfl rfl
theorem gw_423 : (Jvm.Cond.sameMethod "PennyMore$Falling" "PennyMore$Buyer" "note" "([II)V") ∈ mm_G := mm_gi_4 (i := 214) rfl rfl
theorem gw_424 : (Jvm.Cond.methodLink "PennyMore$Falling" (31 : Nat) ({ cls := "PennyMore$Falling", name := "note", desc := "([II)V" } : Jvm.MethodName)) ∈ mm_G := mm_gi_4 (i := 213) rfl rfl
theorem gw_425 : (Jvm.Cond.sameMethod "PennyMore$Late" "PennyMore$Buyer" "note" "([II)V") ∈ mm_G := mm_gi_4 (i := 223) rfl rfl
theorem gw_426 : (Jvm.Cond.methodLink "PennyMore$Late" (31 : Nat) ({ cls := "PennyMore$Late", name := "note", desc := "([II)V" } : Jvm.MethodName)) ∈ mm_G := mm_gi_4 (i := 222) rfl rfl
theorem gw_427 : (Jvm.Cond.sameMethod "PennyMore$Plain" "PennyMore$Buyer" "note" "([II)V") ∈ mm_G := mm_gi_4 (i := 191) rfl rfl
theorem gw_428 : (Jvm.Cond.methodLink "PennyMore$Plain" (21 : Nat) ({ cls := "PennyMore$Plain", name := "note", desc := "([II)V" } : Jvm.MethodName)) ∈ mm_G := mm_gi_4 (i := 190) rfl rfl
theorem gw_429 : (Jvm.Cond.methodLink "PennyMore$Reader" (66 : Nat) ({ cls := "PennyMore$Reader", name := "wordOf", desc := "(I)Ljava/lang/String;" } : Jvm.MethodName)) ∈ mm_G := mm_gi_2 (i := 229) rfl rfl
theorem gw_430 : (Jvm.Cond.static ({ cls := "PennyMore$Reader", name := "wordOf", desc := "(I)Ljava/lang/String;" } : Jvm.MethodName)) ∈ mm_G := mm_gi_2 (i := 230) rfl rfl
theorem gw_431 : (Jvm.Cond.initialized "PennyMore$Reader") ∈ mm_G := mm_gi_1 (i := 4) rfl rfl
theorem gw_432 : (Jvm.Cond.methodLink "PennyMore$Reader" (127 : Nat) ({ cls := "PennyMore$Shop", name := "codeOf", desc := "(III)I" } : Jvm.MethodName)) ∈ mm_G := mm_gi_3 (i := 137) rfl rfl
theorem gw_433 : (Jvm.Cond.static ({ cls := "PennyMore$Shop", name := "codeOf", desc := "(III)I" } : Jvm.MethodName)) ∈ mm_G := mm_gi_3 (i := 138) rfl rfl
theorem gw_434 : (Jvm.Cond.initialized "PennyMore$Shop") ∈ mm_G := mm_gi_1 (i := 2) rfl rfl
theorem gw_435 : (Jvm.Cond.methodLink "PennyMore$Shop" (50 : Nat) ({ cls := "PennyMore$Shop", name := "passes", desc := "(I[I)Z" } : Jvm.MethodName)) ∈ mm_G := mm_gi_2 (i := 175) rfl rfl
theorem gw_436 : (Jvm.Cond.static ({ cls := "PennyMore$Shop", name := "passes", desc := "(I[I)Z" } : Jvm.MethodName)) ∈ mm_G := mm_gi_2 (i := 176) rfl rfl
theorem gw_437 : (Jvm.Cond.sameMethod "PennyMore$Sure" "PennyMore$Buyer" "note" "([II)V") ∈ mm_G := mm_gi_4 (i := 167) rfl rfl
theorem gw_438 : (Jvm.Cond.methodLink "PennyMore$Sure" (24 : Nat) ({ cls := "PennyMore$Sure", name := "note", desc := "([II)V" } : Jvm.MethodName)) ∈ mm_G := mm_gi_4 (i := 166) rfl rfl
theorem gw_439 : (Jvm.Cond.sameMethod "PennyMore$Told" "PennyMore$Buyer" "note" "([II)V") ∈ mm_G := mm_gi_4 (i := 175) rfl rfl
theorem gw_440 : (Jvm.Cond.methodLink "PennyMore$Told" (32 : Nat) ({ cls := "PennyMore$Told", name := "note", desc := "([II)V" } : Jvm.MethodName)) ∈ mm_G := mm_gi_4 (i := 174) rfl rfl
theorem gw_441 : (Jvm.Cond.sameMethod "PennyMore$Waiting" "PennyMore$Buyer" "note" "([II)V") ∈ mm_G := mm_gi_4 (i := 158) rfl rfl
theorem gw_442 : (Jvm.Cond.methodLink "PennyMore$Waiting" (31 : Nat) ({ cls := "PennyMore$Waiting", name := "note", desc := "([II)V" } : Jvm.MethodName)) ∈ mm_G := mm_gi_4 (i := 157) rfl rfl
theorem gw_443 : (Jvm.Cond.methodLink "PennyMore" (69 : Nat) ({ cls := "PennyMore", name := "newBuyer", desc := "(IIII)LPennyMore$Buyer;" } : Jvm.MethodName)) ∈ mm_G := mm_gi_2 (i := 24) rfl rfl
theorem gw_444 : (Jvm.Cond.static ({ cls := "PennyMore", name := "newBuyer", desc := "(IIII)LPennyMore$Buyer;" } : Jvm.MethodName)) ∈ mm_G := mm_gi_2 (i := 25) rfl rfl
theorem gw_445 : (Jvm.Cond.initialized "PennyMore") ∈ mm_G := mm_gi_1 (i := 1) rfl rfl
theorem gw_446 : (Jvm.Cond.methodLink "PennyMore" (97 : Nat) ({ cls := "PennyMore", name := "orAbsent", desc := "(I)I" } : Jvm.MethodName)) ∈ mm_G := mm_gi_2 (i := 151) rfl rfl
theorem gw_447 : (Jvm.Cond.static ({ cls := "PennyMore", name := "orAbsent", desc := "(I)I" } : Jvm.MethodName)) ∈ mm_G := mm_gi_2 (i := 152) rfl rfl
theorem gw_448 : (Jvm.Cond.methodLink "PennyMore" (235 : Nat) ({ cls := "PennyMore", name := "lowestTerms", desc := "(JJI)J" } : Jvm.MethodName)) ∈ mm_G := mm_gi_4 (i := 76) rfl rfl
theorem gw_449 : (Jvm.Cond.static ({ cls := "PennyMore", name := "lowestTerms", desc := "(JJI)J" } : Jvm.MethodName)) ∈ mm_G := mm_gi_4 (i := 77) rfl rfl
theorem gw_450 : (Jvm.Cond.methodLink "PennyMore" (274 : Nat) ({ cls := "PennyMore", name := "isTape", desc := "(I)Z" } : Jvm.MethodName)) ∈ mm_G := mm_gi_4 (i := 130) rfl rfl
theorem gw_451 : (Jvm.Cond.static ({ cls := "PennyMore", name := "isTape", desc := "(I)Z" } : Jvm.MethodName)) ∈ mm_G := mm_gi_4 (i := 131) rfl rfl
theorem gw_452 : (Jvm.Cond.methodLink "PennyMore" (301 : Nat) ({ cls := "PennyMore", name := "isOneOf", desc := "(LPennyMore$Buyer;I)Z" } : Jvm.MethodName)) ∈ mm_G := mm_gi_5 (i := 1) rfl rfl
theorem gw_453 : (Jvm.Cond.static ({ cls := "PennyMore", name := "isOneOf", desc := "(LPennyMore$Buyer;I)Z" } : Jvm.MethodName)) ∈ mm_G := mm_gi_5 (i := 2) rfl rfl
theorem gw_454 : (Jvm.Cond.methodLink "PennyMoreModel" (162 : Nat) ({ cls := "PennyMoreModel", name := "in", desc := "(III)Z" } : Jvm.MethodName)) ∈ mm_G := mm_gi_6 (i := 40) rfl rfl
theorem gw_455 : (Jvm.Cond.static ({ cls := "PennyMoreModel", name := "in", desc := "(III)Z" } : Jvm.MethodName)) ∈ mm_G := mm_gi_6 (i := 41) rfl rfl
theorem gw_456 : (Jvm.Cond.initialized "PennyMoreModel") ∈ mm_G := mm_gi_1 (i := 6) rfl rfl
theorem gw_457 : (Jvm.Cond.methodLink "PennyMoreModel" (194 : Nat) ({ cls := "PennyMoreModel", name := "isFigure", desc := "(I)Z" } : Jvm.MethodName)) ∈ mm_G := mm_gi_6 (i := 128) rfl rfl
theorem gw_458 : (Jvm.Cond.static ({ cls := "PennyMoreModel", name := "isFigure", desc := "(I)Z" } : Jvm.MethodName)) ∈ mm_G := mm_gi_6 (i := 129) rfl rfl
theorem gw_459 : (Jvm.Cond.methodLink "PennyMoreModel" (323 : Nat) ({ cls := "PennyMoreModel", name := "orders", desc := "(I)I" } : Jvm.MethodName)) ∈ mm_G := mm_gi_6 (i := 235) rfl rfl
theorem gw_460 : (Jvm.Cond.static ({ cls := "PennyMoreModel", name := "orders", desc := "(I)I" } : Jvm.MethodName)) ∈ mm_G := mm_gi_6 (i := 236) rfl rfl
theorem gw_461 : (Jvm.Cond.methodLink "PennyMoreModel" (331 : Nat) ({ cls := "PennyMoreModel", name := "lowest", desc := "(JJI)J" } : Jvm.MethodName)) ∈ mm_G := mm_gi_7 (i := 11) rfl rfl
theorem gw_462 : (Jvm.Cond.static ({ cls := "PennyMoreModel", name := "lowest", desc := "(JJI)J" } : Jvm.MethodName)) ∈ mm_G := mm_gi_7 (i := 12) rfl rfl
theorem gw_463 : (Jvm.Cond.methodLink "PennyMoreModel" (392 : Nat) ({ cls := "PennyMoreModel", name := "above", desc := "(I)I" } : Jvm.MethodName)) ∈ mm_G := mm_gi_7 (i := 89) rfl rfl
theorem gw_464 : (Jvm.Cond.static ({ cls := "PennyMoreModel", name := "above", desc := "(I)I" } : Jvm.MethodName)) ∈ mm_G := mm_gi_7 (i := 90) rfl rfl
theorem gw_465 : (Jvm.Cond.methodLink "PennyMoreModel" (407 : Nat) ({ cls := "PennyMoreModel", name := "cut", desc := "(IJ)J" } : Jvm.MethodName)) ∈ mm_G := mm_gi_7 (i := 120) rfl rfl
theorem gw_466 : (Jvm.Cond.static ({ cls := "PennyMoreModel", name := "cut", desc := "(IJ)J" } : Jvm.MethodName)) ∈ mm_G := mm_gi_7 (i := 121) rfl rfl
theorem gw_467 : (Jvm.Cond.methodLink "java/lang/String" (495 : Nat) ({ cls := "java/lang/StringLatin1", name := "charAt", desc := "([BI)C" } : Jvm.MethodName)) ∈ mm_G := mm_gi_3 (i := 25) rfl rfl
theorem gw_468 : (Jvm.Cond.static ({ cls := "java/lang/StringLatin1", name := "charAt", desc := "([BI)C" } : Jvm.MethodName)) ∈ mm_G := mm_gi_3 (i := 26) rfl rfl
theorem gw_469 : (Jvm.Cond.initialized "java/lang/StringLatin1") ∈ mm_G := mm_gi_1 (i := 15) rfl rfl
theorem gw_470 : (Jvm.Cond.methodLink "java/lang/String" (637 : Nat) ({ cls := "java/lang/StringLatin1", name := "indexOf", desc := "([BIII)I" } : Jvm.MethodName)) ∈ mm_G := mm_gi_3 (i := 86) rfl rfl
theorem gw_471 : (Jvm.Cond.static ({ cls := "java/lang/StringLatin1", name := "indexOf", desc := "([BIII)I" } : Jvm.MethodName)) ∈ mm_G := mm_gi_3 (i := 87) rfl rfl
theorem gw_472 : (Jvm.Cond.methodLink "java/lang/String" (1059 : Nat) ({ cls := "jdk/internal/util/Preconditions", name := "checkIndex", desc := "(IILjava/util/function/BiFunction;)I" } : Jvm.MethodName)) ∈ mm_G := mm_gi_3 (i := 33) rfl rfl
theorem gw_473 : (Jvm.Cond.static ({ cls := "jdk/internal/util/Preconditions", name := "checkIndex", desc := "(IILjava/util/function/BiFunction;)I" } : Jvm.MethodName)) ∈ mm_G := mm_gi_3 (i := 34) rfl rfl
theorem gw_474 : (Jvm.Cond.initialized "jdk/internal/util/Preconditions") ∈ mm_G := mm_gi_1 (i := 16) rfl rfl
theorem gw_475 : (Jvm.Cond.methodLink "java/lang/StringLatin1" (9 : Nat) ({ cls := "java/lang/String", name := "checkIndex", desc := "(II)V" } : Jvm.MethodName)) ∈ mm_G := mm_gi_3 (i := 28) rfl rfl
theorem gw_476 : (Jvm.Cond.static ({ cls := "java/lang/String", name := "checkIndex", desc := "(II)V" } : Jvm.MethodName)) ∈ mm_G := mm_gi_3 (i := 29) rfl rfl
theorem gw_477 : (Jvm.Cond.initialized "java/lang/String") ∈ mm_G := mm_gi_1 (i := 14) rfl rfl
theorem gw_478 : (Jvm.Cond.methodLink "java/lang/StringLatin1" (88 : Nat) ({ cls := "java/lang/StringLatin1", name := "canEncode", desc := "(I)Z" } : Jvm.MethodName)) ∈ mm_G := mm_gi_3 (i := 89) rfl rfl
theorem gw_479 : (Jvm.Cond.static ({ cls := "java/lang/StringLatin1", name := "canEncode", desc := "(I)Z" } : Jvm.MethodName)) ∈ mm_G := mm_gi_3 (i := 90) rfl rfl
theorem gw_480 : (Jvm.Cond.methodLink "java/lang/StringLatin1" (95 : Nat) ({ cls := "java/lang/StringLatin1", name := "indexOfChar", desc := "([BIII)I" } : Jvm.MethodName)) ∈ mm_G := mm_gi_3 (i := 98) rfl rfl
theorem gw_481 : (Jvm.Cond.static ({ cls := "java/lang/StringLatin1", name := "indexOfChar", desc := "([BIII)I" } : Jvm.MethodName)) ∈ mm_G := mm_gi_3 (i := 99) rfl rfl
theorem gw_482 : (Jvm.Cond.methodLink "PennyMore$Buyer" (24 : Nat) ({ cls := "PennyMore$Day", name := "gainOfYes", desc := "()I" } : Jvm.MethodName)) ∈ mm_G := mm_gi_3 (i := 226) rfl rfl
theorem gw_483 : (Jvm.Cond.initialized "PennyMore$Day") ∈ mm_G := mm_gi_1 (i := 3) rfl rfl
theorem gw_484 : (Jvm.Cond.instanceMethod ({ cls := "PennyMore$Day", name := "gainOfYes", desc := "()I" } : Jvm.MethodName)) ∈ mm_G := mm_gi_3 (i := 212) rfl rfl
theorem gw_485 : (Jvm.Cond.selects "PennyMore$Day" ({ cls := "PennyMore$Day", name := "gainOfYes", desc := "()I" } : Jvm.MethodName) ({ cls := "PennyMore$Day", name := "gainOfYes", desc := "()I" } : Jvm.MethodName)) ∈ mm_G := mm_gi_3 (i := 213) rfl rfl
theorem gw_486 : (Jvm.Cond.sameMethod "PennyMore$Buyer" "PennyMore$Buyer" "bids" "(I[I)I") ∈ mm_G := mm_gi_4 (i := 152) rfl rfl
theorem gw_487 : (Jvm.Cond.instanceMethod ({ cls := "PennyMore$Buyer", name := "bids", desc := "(I[I)I" } : Jvm.MethodName)) ∈ mm_G := mm_gi_4 (i := 150) rfl rfl
theorem gw_488 : (Jvm.Cond.methodLink "PennyMore$Buyer" (34 : Nat) ({ cls := "PennyMore$Buyer", name := "bids", desc := "(I[I)I" } : Jvm.MethodName)) ∈ mm_G := mm_gi_4 (i := 205) rfl rfl
theorem gw_489 : (Jvm.Cond.initialized "PennyMore$Waiting") ∈ mm_G := mm_gi_1 (i := 9) rfl rfl
theorem gw_490 : (Jvm.Cond.instanceMethod ({ cls := "PennyMore$Waiting", name := "bids", desc := "(I[I)I" } : Jvm.MethodName)) ∈ mm_G := mm_gi_4 (i := 155) rfl rfl
theorem gw_491 : (Jvm.Cond.selects "PennyMore$Waiting" ({ cls := "PennyMore$Buyer", name := "bids", desc := "(I[I)I" } : Jvm.MethodName) ({ cls := "PennyMore$Waiting", name := "bids", desc := "(I[I)I" } : Jvm.MethodName)) ∈ mm_G := mm_gi_4 (i := 178) rfl rfl
theorem gw_492 : (Jvm.Cond.initialized "PennyMore$Told") ∈ mm_G := mm_gi_1 (i := 13) rfl rfl
theorem gw_493 : (Jvm.Cond.instanceMethod ({ cls := "PennyMore$Told", name := "bids", desc := "(I[I)I" } : Jvm.MethodName)) ∈ mm_G := mm_gi_4 (i := 172) rfl rfl
theorem gw_494 : (Jvm.Cond.selects "PennyMore$Told" ({ cls := "PennyMore$Buyer", name := "bids", desc := "(I[I)I" } : Jvm.MethodName) ({ cls := "PennyMore$Told", name := "bids", desc := "(I[I)I" } : Jvm.MethodName)) ∈ mm_G := mm_gi_4 (i := 171) rfl rfl
theorem gw_495 : (Jvm.Cond.initialized "PennyMore$Sure") ∈ mm_G := mm_gi_1 (i := 11) rfl rfl
theorem gw_496 : (Jvm.Cond.instanceMethod ({ cls := "PennyMore$Sure", name := "bids", desc := "(I[I)I" } : Jvm.MethodName)) ∈ mm_G := mm_gi_4 (i := 164) rfl rfl
theorem gw_497 : (Jvm.Cond.selects "PennyMore$Sure" ({ cls := "PennyMore$Buyer", name := "bids", desc := "(I[I)I" } : Jvm.MethodName) ({ cls := "PennyMore$Sure", name := "bids", desc := "(I[I)I" } : Jvm.MethodName)) ∈ mm_G := mm_gi_4 (i := 163) rfl rfl
theorem gw_498 : (Jvm.Cond.selects "PennyMore$Plain" ({ cls := "PennyMore$Buyer", name := "bids", desc := "(I[I)I" } : Jvm.MethodName) ({ cls := "PennyMore$Buyer", name := "bids", desc := "(I[I)I" } : Jvm.MethodName)) ∈ mm_G := mm_gi_4 (i := 162) rfl rfl
theorem gw_499 : (Jvm.Cond.selects "PennyMore$Late" ({ cls := "PennyMore$Buyer", name := "bids", desc := "(I[I)I" } : Jvm.MethodName) ({ cls := "PennyMore$Waiting", name := "bids", desc := "(I[I)I" } : Jvm.MethodName)) ∈ mm_G := mm_gi_4 (i := 154) rfl rfl
theorem gw_500 : (Jvm.Cond.selects "PennyMore$Falling" ({ cls := "PennyMore$Buyer", name := "bids", desc := "(I[I)I" } : Jvm.MethodName) ({ cls := "PennyMore$Buyer", name := "bids", desc := "(I[I)I" } : Jvm.MethodName)) ∈ mm_G := mm_gi_4 (i := 153) rfl rfl
theorem gw_501 : (Jvm.Cond.selects "PennyMore$Buyer" ({ cls := "PennyMore$Buyer", name := "bids", desc := "(I[I)I" } : Jvm.MethodName) ({ cls := "PennyMore$Buyer", name := "bids", desc := "(I[I)I" } : Jvm.MethodName)) ∈ mm_G := mm_gi_4 (i := 151) rfl rfl
theorem gw_502 : (Jvm.Cond.sameMethod "PennyMore$Buyer" "PennyMore$Buyer" "waits" "(I[I)I") ∈ mm_G := mm_gi_4 (i := 184) rfl rfl
theorem gw_503 : (Jvm.Cond.instanceMethod ({ cls := "PennyMore$Buyer", name := "waits", desc := "(I[I)I" } : Jvm.MethodName)) ∈ mm_G := mm_gi_4 (i := 182) rfl rfl
theorem gw_504 : (Jvm.Cond.methodLink "PennyMore$Buyer" (38 : Nat) ({ cls := "PennyMore$Buyer", name := "waits", desc := "(I[I)I" } : Jvm.MethodName)) ∈ mm_G := mm_gi_4 (i := 232) rfl rfl
theorem gw_505 : (Jvm.Cond.selects "PennyMore$Waiting" ({ cls := "PennyMore$Buyer", name := "waits", desc := "(I[I)I" } : Jvm.MethodName) ({ cls := "PennyMore$Buyer", name := "waits", desc := "(I[I)I" } : Jvm.MethodName)) ∈ mm_G := mm_gi_4 (i := 203) rfl rfl
theorem gw_506 : (Jvm.Cond.instanceMethod ({ cls := "PennyMore$Told", name := "waits", desc := "(I[I)I" } : Jvm.MethodName)) ∈ mm_G := mm_gi_4 (i := 198) rfl rfl
theorem gw_507 : (Jvm.Cond.selects "PennyMore$Told" ({ cls := "PennyMore$Buyer", name := "waits", desc := "(I[I)I" } : Jvm.MethodName) ({ cls := "PennyMore$Told", name := "waits", desc := "(I[I)I" } : Jvm.MethodName)) ∈ mm_G := mm_gi_4 (i := 197) rfl rfl
theorem gw_508 : (Jvm.Cond.instanceMethod ({ cls := "PennyMore$Sure", name := "waits", desc := "(I[I)I" } : Jvm.MethodName)) ∈ mm_G := mm_gi_4 (i := 194) rfl rfl
theorem gw_509 : (Jvm.Cond.selects "PennyMore$Sure" ({ cls := "PennyMore$Buyer", name := "waits", desc := "(I[I)I" } : Jvm.MethodName) ({ cls := "PennyMore$Sure", name := "waits", desc := "(I[I)I" } : Jvm.MethodName)) ∈ mm_G := mm_gi_4 (i := 193) rfl rfl
theorem gw_510 : (Jvm.Cond.initialized "PennyMore$Plain") ∈ mm_G := mm_gi_1 (i := 8) rfl rfl
theorem gw_511 : (Jvm.Cond.instanceMethod ({ cls := "PennyMore$Plain", name := "waits", desc := "(I[I)I" } : Jvm.MethodName)) ∈ mm_G := mm_gi_4 (i := 188) rfl rfl
theorem gw_512 : (Jvm.Cond.selects "PennyMore$Plain" ({ cls := "PennyMore$Buyer", name := "waits", desc := "(I[I)I" } : Jvm.MethodName) ({ cls := "PennyMore$Plain", name := "waits", desc := "(I[I)I" } : Jvm.MethodName)) ∈ mm_G := mm_gi_4 (i := 187) rfl rfl
theorem gw_513 : (Jvm.Cond.selects "PennyMore$Late" ({ cls := "PennyMore$Buyer", name := "waits", desc := "(I[I)I" } : Jvm.MethodName) ({ cls := "PennyMore$Buyer", name := "waits", desc := "(I[I)I" } : Jvm.MethodName)) ∈ mm_G := mm_gi_4 (i := 186) rfl rfl
theorem gw_514 : (Jvm.Cond.selects "PennyMore$Falling" ({ cls := "PennyMore$Buyer", name := "waits", desc := "(I[I)I" } : Jvm.MethodName) ({ cls := "PennyMore$Buyer", name := "waits", desc := "(I[I)I" } : Jvm.MethodName)) ∈ mm_G := mm_gi_4 (i := 185) rfl rfl
theorem gw_515 : (Jvm.Cond.selects "PennyMore$Buyer" ({ cls := "PennyMore$Buyer", name := "waits", desc := "(I[I)I" } : Jvm.MethodName) ({ cls := "PennyMore$Buyer", name := "waits", desc := "(I[I)I" } : Jvm.MethodName)) ∈ mm_G := mm_gi_4 (i := 183) rfl rfl
theorem gw_516 : (Jvm.Cond.methodLink "PennyMore$Day" (80 : Nat) ({ cls := "PennyMore$Day", name := "stand", desc := "(I)V" } : Jvm.MethodName)) ∈ mm_G := mm_gi_2 (i := 139) rfl rfl
theorem gw_517 : (Jvm.Cond.instanceMethod ({ cls := "PennyMore$Day", name := "stand", desc := "(I)V" } : Jvm.MethodName)) ∈ mm_G := mm_gi_2 (i := 140) rfl rfl
theorem gw_518 : (Jvm.Cond.selects "PennyMore$Day" ({ cls := "PennyMore$Day", name := "stand", desc := "(I)V" } : Jvm.MethodName) ({ cls := "PennyMore$Day", name := "stand", desc := "(I)V" } : Jvm.MethodName)) ∈ mm_G := mm_gi_2 (i := 141) rfl rfl
theorem gw_519 : (Jvm.Cond.methodLink "PennyMore$Day" (84 : Nat) ({ cls := "PennyMore$Day", name := "placeOf", desc := "(I)I" } : Jvm.MethodName)) ∈ mm_G := mm_gi_2 (i := 166) rfl rfl
theorem gw_520 : (Jvm.Cond.instanceMethod ({ cls := "PennyMore$Day", name := "placeOf", desc := "(I)I" } : Jvm.MethodName)) ∈ mm_G := mm_gi_2 (i := 155) rfl rfl
theorem gw_521 : (Jvm.Cond.selects "PennyMore$Day" ({ cls := "PennyMore$Day", name := "placeOf", desc := "(I)I" } : Jvm.MethodName) ({ cls := "PennyMore$Day", name := "placeOf", desc := "(I)I" } : Jvm.MethodName)) ∈ mm_G := mm_gi_2 (i := 156) rfl rfl
theorem gw_522 : (Jvm.Cond.methodLink "PennyMore$Day" (88 : Nat) ({ cls := "PennyMore$Day", name := "leave", desc := "(I)V" } : Jvm.MethodName)) ∈ mm_G := mm_gi_3 (i := 183) rfl rfl
theorem gw_523 : (Jvm.Cond.instanceMethod ({ cls := "PennyMore$Day", name := "leave", desc := "(I)V" } : Jvm.MethodName)) ∈ mm_G := mm_gi_3 (i := 184) rfl rfl
theorem gw_524 : (Jvm.Cond.selects "PennyMore$Day" ({ cls := "PennyMore$Day", name := "leave", desc := "(I)V" } : Jvm.MethodName) ({ cls := "PennyMore$Day", name := "leave", desc := "(I)V" } : Jvm.MethodName)) ∈ mm_G := mm_gi_3 (i := 185) rfl rfl
theorem gw_525 : (Jvm.Cond.methodLink "PennyMore$Day" (103 : Nat) ({ cls := "PennyMore$Day", name := "friendStands", desc := "(I)Z" } : Jvm.MethodName)) ∈ mm_G := mm_gi_2 (i := 162) rfl rfl
theorem gw_526 : (Jvm.Cond.instanceMethod ({ cls := "PennyMore$Day", name := "friendStands", desc := "(I)Z" } : Jvm.MethodName)) ∈ mm_G := mm_gi_2 (i := 163) rfl rfl
theorem gw_527 : (Jvm.Cond.selects "PennyMore$Day" ({ cls := "PennyMore$Day", name := "friendStands", desc := "(I)Z" } : Jvm.MethodName) ({ cls := "PennyMore$Day", name := "friendStands", desc := "(I)Z" } : Jvm.MethodName)) ∈ mm_G := mm_gi_2 (i := 164) rfl rfl
theorem gw_528 : (Jvm.Cond.methodLink "PennyMore$Day" (110 : Nat) ({ cls := "PennyMore$Shop", name := "sumOf", desc := "(I[I)I" } : Jvm.MethodName)) ∈ mm_G := mm_gi_2 (i := 167) rfl rfl
theorem gw_529 : (Jvm.Cond.instanceMethod ({ cls := "PennyMore$Shop", name := "sumOf", desc := "(I[I)I" } : Jvm.MethodName)) ∈ mm_G := mm_gi_2 (i := 168) rfl rfl
theorem gw_530 : (Jvm.Cond.selects "PennyMore$Shop" ({ cls := "PennyMore$Shop", name := "sumOf", desc := "(I[I)I" } : Jvm.MethodName) ({ cls := "PennyMore$Shop", name := "sumOf", desc := "(I[I)I" } : Jvm.MethodName)) ∈ mm_G := mm_gi_2 (i := 169) rfl rfl
theorem gw_531 : (Jvm.Cond.methodLink "PennyMore$Day" (114 : Nat) ({ cls := "PennyMore$Day", name := "weigh", desc := "(I)V" } : Jvm.MethodName)) ∈ mm_G := mm_gi_3 (i := 239) rfl rfl
theorem gw_532 : (Jvm.Cond.instanceMethod ({ cls := "PennyMore$Day", name := "weigh", desc := "(I)V" } : Jvm.MethodName)) ∈ mm_G := mm_gi_2 (i := 159) rfl rfl
theorem gw_533 : (Jvm.Cond.selects "PennyMore$Day" ({ cls := "PennyMore$Day", name := "weigh", desc := "(I)V" } : Jvm.MethodName) ({ cls := "PennyMore$Day", name := "weigh", desc := "(I)V" } : Jvm.MethodName)) ∈ mm_G := mm_gi_2 (i := 160) rfl rfl
theorem gw_534 : (Jvm.Cond.sameMethod "PennyMore$Buyer" "PennyMore$Buyer" "does" "(LPennyMore$Day;)I") ∈ mm_G := mm_gi_3 (i := 190) rfl rfl
theorem gw_535 : (Jvm.Cond.instanceMethod ({ cls := "PennyMore$Buyer", name := "does", desc := "(LPennyMore$Day;)I" } : Jvm.MethodName)) ∈ mm_G := mm_gi_3 (i := 188) rfl rfl
theorem gw_536 : (Jvm.Cond.methodLink "PennyMore$Day" (117 : Nat) ({ cls := "PennyMore$Buyer", name := "does", desc := "(LPennyMore$Day;)I" } : Jvm.MethodName)) ∈ mm_G := mm_gi_4 (i := 0) rfl rfl
theorem gw_537 : (Jvm.Cond.instanceMethod ({ cls := "PennyMore$Waiting", name := "does", desc := "(LPennyMore$Day;)I" } : Jvm.MethodName)) ∈ mm_G := mm_gi_3 (i := 204) rfl rfl
theorem gw_538 : (Jvm.Cond.selects "PennyMore$Waiting" ({ cls := "PennyMore$Buyer", name := "does", desc := "(LPennyMore$Day;)I" } : Jvm.MethodName) ({ cls := "PennyMore$Waiting", name := "does", desc := "(LPennyMore$Day;)I" } : Jvm.MethodName)) ∈ mm_G := mm_gi_3 (i := 224) rfl rfl
theorem gw_539 : (Jvm.Cond.instanceMethod ({ cls := "PennyMore$Told", name := "does", desc := "(LPennyMore$Day;)I" } : Jvm.MethodName)) ∈ mm_G := mm_gi_3 (i := 220) rfl rfl
theorem gw_540 : (Jvm.Cond.selects "PennyMore$Told" ({ cls := "PennyMore$Buyer", name := "does", desc := "(LPennyMore$Day;)I" } : Jvm.MethodName) ({ cls := "PennyMore$Told", name := "does", desc := "(LPennyMore$Day;)I" } : Jvm.MethodName)) ∈ mm_G := mm_gi_3 (i := 219) rfl rfl
theorem gw_541 : (Jvm.Cond.instanceMethod ({ cls := "PennyMore$Sure", name := "does", desc := "(LPennyMore$Day;)I" } : Jvm.MethodName)) ∈ mm_G := mm_gi_3 (i := 216) rfl rfl
theorem gw_542 : (Jvm.Cond.selects "PennyMore$Sure" ({ cls := "PennyMore$Buyer", name := "does", desc := "(LPennyMore$Day;)I" } : Jvm.MethodName) ({ cls := "PennyMore$Sure", name := "does", desc := "(LPennyMore$Day;)I" } : Jvm.MethodName)) ∈ mm_G := mm_gi_3 (i := 215) rfl rfl
theorem gw_543 : (Jvm.Cond.instanceMethod ({ cls := "PennyMore$Plain", name := "does", desc := "(LPennyMore$Day;)I" } : Jvm.MethodName)) ∈ mm_G := mm_gi_3 (i := 209) rfl rfl
theorem gw_544 : (Jvm.Cond.selects "PennyMore$Plain" ({ cls := "PennyMore$Buyer", name := "does", desc := "(LPennyMore$Day;)I" } : Jvm.MethodName) ({ cls := "PennyMore$Plain", name := "does", desc := "(LPennyMore$Day;)I" } : Jvm.MethodName)) ∈ mm_G := mm_gi_3 (i := 208) rfl rfl
theorem gw_545 : (Jvm.Cond.initialized "PennyMore$Late") ∈ mm_G := mm_gi_1 (i := 12) rfl rfl
theorem gw_546 : (Jvm.Cond.instanceMethod ({ cls := "PennyMore$Late", name := "does", desc := "(LPennyMore$Day;)I" } : Jvm.MethodName)) ∈ mm_G := mm_gi_3 (i := 197) rfl rfl
theorem gw_547 : (Jvm.Cond.selects "PennyMore$Late" ({ cls := "PennyMore$Buyer", name := "does", desc := "(LPennyMore$Day;)I" } : Jvm.MethodName) ({ cls := "PennyMore$Late", name := "does", desc := "(LPennyMore$Day;)I" } : Jvm.MethodName)) ∈ mm_G := mm_gi_3 (i := 196) rfl rfl
theorem gw_548 : (Jvm.Cond.initialized "PennyMore$Falling") ∈ mm_G := mm_gi_1 (i := 10) rfl rfl
theorem gw_549 : (Jvm.Cond.instanceMethod ({ cls := "PennyMore$Falling", name := "does", desc := "(LPennyMore$Day;)I" } : Jvm.MethodName)) ∈ mm_G := mm_gi_3 (i := 192) rfl rfl
theorem gw_550 : (Jvm.Cond.selects "PennyMore$Falling" ({ cls := "PennyMore$Buyer", name := "does", desc := "(LPennyMore$Day;)I" } : Jvm.MethodName) ({ cls := "PennyMore$Falling", name := "does", desc := "(LPennyMore$Day;)I" } : Jvm.MethodName)) ∈ mm_G := mm_gi_3 (i := 191) rfl rfl
theorem gw_551 : (Jvm.Cond.selects "PennyMore$Buyer" ({ cls := "PennyMore$Buyer", name := "does", desc := "(LPennyMore$Day;)I" } : Jvm.MethodName) ({ cls := "PennyMore$Buyer", name := "does", desc := "(LPennyMore$Day;)I" } : Jvm.MethodName)) ∈ mm_G := mm_gi_3 (i := 189) rfl rfl
theorem gw_552 : (Jvm.Cond.methodLink "PennyMore$Day" (121 : Nat) ({ cls := "PennyMore$Day", name := "carryOut", desc := "(I)V" } : Jvm.MethodName)) ∈ mm_G := mm_gi_4 (i := 1) rfl rfl
theorem gw_553 : (Jvm.Cond.instanceMethod ({ cls := "PennyMore$Day", name := "carryOut", desc := "(I)V" } : Jvm.MethodName)) ∈ mm_G := mm_gi_4 (i := 2) rfl rfl
theorem gw_554 : (Jvm.Cond.selects "PennyMore$Day" ({ cls := "PennyMore$Day", name := "carryOut", desc := "(I)V" } : Jvm.MethodName) ({ cls := "PennyMore$Day", name := "carryOut", desc := "(I)V" } : Jvm.MethodName)) ∈ mm_G := mm_gi_4 (i := 3) rfl rfl
theorem gw_555 : (Jvm.Cond.methodLink "PennyMore$Day" (136 : Nat) ({ cls := "PennyMore$Day", name := "turnComes", desc := "()Z" } : Jvm.MethodName)) ∈ mm_G := mm_gi_4 (i := 18) rfl rfl
theorem gw_556 : (Jvm.Cond.instanceMethod ({ cls := "PennyMore$Day", name := "turnComes", desc := "()Z" } : Jvm.MethodName)) ∈ mm_G := mm_gi_3 (i := 232) rfl rfl
theorem gw_557 : (Jvm.Cond.selects "PennyMore$Day" ({ cls := "PennyMore$Day", name := "turnComes", desc := "()Z" } : Jvm.MethodName) ({ cls := "PennyMore$Day", name := "turnComes", desc := "()Z" } : Jvm.MethodName)) ∈ mm_G := mm_gi_3 (i := 233) rfl rfl
theorem gw_558 : (Jvm.Cond.methodLink "PennyMore$Day" (140 : Nat) ({ cls := "PennyMore$Day", name := "turn", desc := "()I" } : Jvm.MethodName)) ∈ mm_G := mm_gi_4 (i := 19) rfl rfl
theorem gw_559 : (Jvm.Cond.instanceMethod ({ cls := "PennyMore$Day", name := "turn", desc := "()I" } : Jvm.MethodName)) ∈ mm_G := mm_gi_3 (i := 236) rfl rfl
theorem gw_560 : (Jvm.Cond.selects "PennyMore$Day" ({ cls := "PennyMore$Day", name := "turn", desc := "()I" } : Jvm.MethodName) ({ cls := "PennyMore$Day", name := "turn", desc := "()I" } : Jvm.MethodName)) ∈ mm_G := mm_gi_3 (i := 237) rfl rfl
theorem gw_561 : (Jvm.Cond.methodLink "PennyMore$Falling" (23 : Nat) ({ cls := "PennyMore$Day", name := "friendStands", desc := "(I)Z" } : Jvm.MethodName)) ∈ mm_G := mm_gi_3 (i := 194) rfl rfl
theorem gw_562 : (Jvm.Cond.sameMethod "PennyMore$Falling" "PennyMore$Buyer" "waits" "(I[I)I") ∈ mm_G := mm_gi_4 (i := 201) rfl rfl
theorem gw_563 : (Jvm.Cond.methodLink "PennyMore$Falling" (39 : Nat) ({ cls := "PennyMore$Falling", name := "waits", desc := "(I[I)I" } : Jvm.MethodName)) ∈ mm_G := mm_gi_4 (i := 216) rfl rfl
theorem gw_564 : (Jvm.Cond.selects "PennyMore$Told" ({ cls := "PennyMore$Falling", name := "waits", desc := "(I[I)I" } : Jvm.MethodName) ({ cls := "PennyMore$Told", name := "waits", desc := "(I[I)I" } : Jvm.MethodName)) ∈ mm_G := mm_gi_4 (i := 218) rfl rfl
theorem gw_565 : (Jvm.Cond.selects "PennyMore$Falling" ({ cls := "PennyMore$Falling", name := "waits", desc := "(I[I)I" } : Jvm.MethodName) ({ cls := "PennyMore$Buyer", name := "waits", desc := "(I[I)I" } : Jvm.MethodName)) ∈ mm_G := mm_gi_4 (i := 217) rfl rfl
theorem gw_566 : (Jvm.Cond.methodLink "PennyMore$Late" (23 : Nat) ({ cls := "PennyMore$Day", name := "mayGoAway", desc := "(I)Z" } : Jvm.MethodName)) ∈ mm_G := mm_gi_3 (i := 199) rfl rfl
theorem gw_567 : (Jvm.Cond.instanceMethod ({ cls := "PennyMore$Day", name := "mayGoAway", desc := "(I)Z" } : Jvm.MethodName)) ∈ mm_G := mm_gi_3 (i := 200) rfl rfl
theorem gw_568 : (Jvm.Cond.selects "PennyMore$Day" ({ cls := "PennyMore$Day", name := "mayGoAway", desc := "(I)Z" } : Jvm.MethodName) ({ cls := "PennyMore$Day", name := "mayGoAway", desc := "(I)Z" } : Jvm.MethodName)) ∈ mm_G := mm_gi_3 (i := 201) rfl rfl
theorem gw_569 : (Jvm.Cond.methodLink "PennyMore$Plain" (9 : Nat) ({ cls := "PennyMore$Day", name := "gainOfYes", desc := "()I" } : Jvm.MethodName)) ∈ mm_G := mm_gi_3 (i := 211) rfl rfl
theorem gw_570 : (Jvm.Cond.methodLink "PennyMore$Reader" (21 : Nat) ({ cls := "PennyMore$Shop", name := "clear", desc := "()V" } : Jvm.MethodName)) ∈ mm_G := mm_gi_2 (i := 220) rfl rfl
theorem gw_571 : (Jvm.Cond.instanceMethod ({ cls := "PennyMore$Shop", name := "clear", desc := "()V" } : Jvm.MethodName)) ∈ mm_G := mm_gi_1 (i := 36) rfl rfl
theorem gw_572 : (Jvm.Cond.selects "PennyMore$Shop" ({ cls := "PennyMore$Shop", name := "clear", desc := "()V" } : Jvm.MethodName) ({ cls := "PennyMore$Shop", name := "clear", desc := "()V" } : Jvm.MethodName)) ∈ mm_G := mm_gi_1 (i := 37) rfl rfl
theorem gw_573 : (Jvm.Cond.methodLink "PennyMore$Reader" (29 : Nat) ({ cls := "PennyMore$Reader", name := "clause", desc := "()Z" } : Jvm.MethodName)) ∈ mm_G := mm_gi_2 (i := 221) rfl rfl
theorem gw_574 : (Jvm.Cond.instanceMethod ({ cls := "PennyMore$Reader", name := "clause", desc := "()Z" } : Jvm.MethodName)) ∈ mm_G := mm_gi_2 (i := 223) rfl rfl
theorem gw_575 : (Jvm.Cond.selects "PennyMore$Reader" ({ cls := "PennyMore$Reader", name := "clause", desc := "()Z" } : Jvm.MethodName) ({ cls := "PennyMore$Reader", name := "clause", desc := "()Z" } : Jvm.MethodName)) ∈ mm_G := mm_gi (i := 2) rfl rfl
theorem gw_576 : (Jvm.Cond.methodLink "PennyMore$Reader" (35 : Nat) ({ cls := "PennyMore$Reader", name := "word", desc := "(Ljava/lang/String;)Z" } : Jvm.MethodName)) ∈ mm_G := mm_gi_3 (i := 3) rfl rfl
theorem gw_577 : (Jvm.Cond.instanceMethod ({ cls := "PennyMore$Reader", name := "word", desc := "(Ljava/lang/String;)Z" } : Jvm.MethodName)) ∈ mm_G := mm_gi_3 (i := 5) rfl rfl
theorem gw_578 : (Jvm.Cond.selects "PennyMore$Reader" ({ cls := "PennyMore$Reader", name := "word", desc := "(Ljava/lang/String;)Z" } : Jvm.MethodName) ({ cls := "PennyMore$Reader", name := "word", desc := "(Ljava/lang/String;)Z" } : Jvm.MethodName)) ∈ mm_G := mm_gi (i := 4) rfl rfl
theorem gw_579 : (Jvm.Cond.methodLink "PennyMore$Reader" (39 : Nat) ({ cls := "java/lang/String", name := "length", desc := "()I" } : Jvm.MethodName)) ∈ mm_G := mm_gi_3 (i := 7) rfl rfl
theorem gw_580 : (Jvm.Cond.instanceMethod ({ cls := "java/lang/String", name := "length", desc := "()I" } : Jvm.MethodName)) ∈ mm_G := mm_gi_3 (i := 8) rfl rfl
theorem gw_581 : (Jvm.Cond.selects "java/lang/String" ({ cls := "java/lang/String", name := "length", desc := "()I" } : Jvm.MethodName) ({ cls := "java/lang/String", name := "length", desc := "()I" } : Jvm.MethodName)) ∈ mm_G := mm_gi_3 (i := 9) rfl rfl
theorem gw_582 : (Jvm.Cond.methodLink "PennyMore$Reader" (45 : Nat) ({ cls := "PennyMore$Reader", name := "next", desc := "()I" } : Jvm.MethodName)) ∈ mm_G := mm_gi_2 (i := 225) rfl rfl
theorem gw_583 : (Jvm.Cond.instanceMethod ({ cls := "PennyMore$Reader", name := "next", desc := "()I" } : Jvm.MethodName)) ∈ mm_G := mm_gi_2 (i := 227) rfl rfl
theorem gw_584 : (Jvm.Cond.selects "PennyMore$Reader" ({ cls := "PennyMore$Reader", name := "next", desc := "()I" } : Jvm.MethodName) ({ cls := "PennyMore$Reader", name := "next", desc := "()I" } : Jvm.MethodName)) ∈ mm_G := mm_gi (i := 3) rfl rfl
theorem gw_585 : (Jvm.Cond.methodLink "PennyMore$Reader" (48 : Nat) ({ cls := "java/lang/String", name := "charAt", desc := "(I)C" } : Jvm.MethodName)) ∈ mm_G := mm_gi_3 (i := 17) rfl rfl
theorem gw_586 : (Jvm.Cond.instanceMethod ({ cls := "java/lang/String", name := "charAt", desc := "(I)C" } : Jvm.MethodName)) ∈ mm_G := mm_gi_3 (i := 18) rfl rfl
theorem gw_587 : (Jvm.Cond.selects "java/lang/String" ({ cls := "java/lang/String", name := "charAt", desc := "(I)C" } : Jvm.MethodName) ({ cls := "java/lang/String", name := "charAt", desc := "(I)C" } : Jvm.MethodName)) ∈ mm_G := mm_gi_3 (i := 19) rfl rfl
theorem gw_588 : (Jvm.Cond.methodLink "PennyMore$Reader" (70 : Nat) ({ cls := "java/lang/String", name := "isEmpty", desc := "()Z" } : Jvm.MethodName)) ∈ mm_G := mm_gi_2 (i := 239) rfl rfl
theorem gw_589 : (Jvm.Cond.instanceMethod ({ cls := "java/lang/String", name := "isEmpty", desc := "()Z" } : Jvm.MethodName)) ∈ mm_G := mm_gi_3 (i := 0) rfl rfl
theorem gw_590 : (Jvm.Cond.selects "java/lang/String" ({ cls := "java/lang/String", name := "isEmpty", desc := "()Z" } : Jvm.MethodName) ({ cls := "java/lang/String", name := "isEmpty", desc := "()Z" } : Jvm.MethodName)) ∈ mm_G := mm_gi_3 (i := 1) rfl rfl
theorem gw_591 : (Jvm.Cond.methodLink "PennyMore$Reader" (73 : Nat) ({ cls := "PennyMore$Reader", name := "number", desc := "()I" } : Jvm.MethodName)) ∈ mm_G := mm_gi_3 (i := 55) rfl rfl
theorem gw_592 : (Jvm.Cond.instanceMethod ({ cls := "PennyMore$Reader", name := "number", desc := "()I" } : Jvm.MethodName)) ∈ mm_G := mm_gi_3 (i := 57) rfl rfl
theorem gw_593 : (Jvm.Cond.selects "PennyMore$Reader" ({ cls := "PennyMore$Reader", name := "number", desc := "()I" } : Jvm.MethodName) ({ cls := "PennyMore$Reader", name := "number", desc := "()I" } : Jvm.MethodName)) ∈ mm_G := mm_gi (i := 5) rfl rfl
theorem gw_594 : (Jvm.Cond.methodLink "PennyMore$Reader" (78 : Nat) ({ cls := "PennyMore$Reader", name := "either", desc := "(I)Z" } : Jvm.MethodName)) ∈ mm_G := mm_gi_3 (i := 60) rfl rfl
theorem gw_595 : (Jvm.Cond.instanceMethod ({ cls := "PennyMore$Reader", name := "either", desc := "(I)Z" } : Jvm.MethodName)) ∈ mm_G := mm_gi_3 (i := 62) rfl rfl
theorem gw_596 : (Jvm.Cond.selects "PennyMore$Reader" ({ cls := "PennyMore$Reader", name := "either", desc := "(I)Z" } : Jvm.MethodName) ({ cls := "PennyMore$Reader", name := "either", desc := "(I)Z" } : Jvm.MethodName)) ∈ mm_G := mm_gi (i := 6) rfl rfl
theorem gw_597 : (Jvm.Cond.methodLink "PennyMore$Reader" (82 : Nat) ({ cls := "PennyMore$Shop", name := "putClause", desc := "(II)V" } : Jvm.MethodName)) ∈ mm_G := mm_gi_3 (i := 145) rfl rfl
theorem gw_598 : (Jvm.Cond.instanceMethod ({ cls := "PennyMore$Shop", name := "putClause", desc := "(II)V" } : Jvm.MethodName)) ∈ mm_G := mm_gi_3 (i := 146) rfl rfl
theorem gw_599 : (Jvm.Cond.selects "PennyMore$Shop" ({ cls := "PennyMore$Shop", name := "putClause", desc := "(II)V" } : Jvm.MethodName) ({ cls := "PennyMore$Shop", name := "putClause", desc := "(II)V" } : Jvm.MethodName)) ∈ mm_G := mm_gi_3 (i := 147) rfl rfl
theorem gw_600 : (Jvm.Cond.methodLink "PennyMore$Reader" (104 : Nat) ({ cls := "PennyMore$Reader", name := "both", desc := "(I)Z" } : Jvm.MethodName)) ∈ mm_G := mm_gi_3 (i := 64) rfl rfl
theorem gw_601 : (Jvm.Cond.instanceMethod ({ cls := "PennyMore$Reader", name := "both", desc := "(I)Z" } : Jvm.MethodName)) ∈ mm_G := mm_gi_3 (i := 66) rfl rfl
theorem gw_602 : (Jvm.Cond.selects "PennyMore$Reader" ({ cls := "PennyMore$Reader", name := "both", desc := "(I)Z" } : Jvm.MethodName) ({ cls := "PennyMore$Reader", name := "both", desc := "(I)Z" } : Jvm.MethodName)) ∈ mm_G := mm_gi (i := 7) rfl rfl
theorem gw_603 : (Jvm.Cond.methodLink "PennyMore$Reader" (107 : Nat) ({ cls := "PennyMore$Shop", name := "putCode", desc := "(I)V" } : Jvm.MethodName)) ∈ mm_G := mm_gi_3 (i := 140) rfl rfl
theorem gw_604 : (Jvm.Cond.instanceMethod ({ cls := "PennyMore$Shop", name := "putCode", desc := "(I)V" } : Jvm.MethodName)) ∈ mm_G := mm_gi_3 (i := 141) rfl rfl
theorem gw_605 : (Jvm.Cond.selects "PennyMore$Shop" ({ cls := "PennyMore$Shop", name := "putCode", desc := "(I)V" } : Jvm.MethodName) ({ cls := "PennyMore$Shop", name := "putCode", desc := "(I)V" } : Jvm.MethodName)) ∈ mm_G := mm_gi_3 (i := 142) rfl rfl
theorem gw_606 : (Jvm.Cond.methodLink "PennyMore$Reader" (111 : Nat) ({ cls := "PennyMore$Reader", name := "factor", desc := "(I)Z" } : Jvm.MethodName)) ∈ mm_G := mm_gi_3 (i := 68) rfl rfl
theorem gw_607 : (Jvm.Cond.instanceMethod ({ cls := "PennyMore$Reader", name := "factor", desc := "(I)Z" } : Jvm.MethodName)) ∈ mm_G := mm_gi_3 (i := 70) rfl rfl
theorem gw_608 : (Jvm.Cond.selects "PennyMore$Reader" ({ cls := "PennyMore$Reader", name := "factor", desc := "(I)Z" } : Jvm.MethodName) ({ cls := "PennyMore$Reader", name := "factor", desc := "(I)Z" } : Jvm.MethodName)) ∈ mm_G := mm_gi (i := 8) rfl rfl
theorem gw_609 : (Jvm.Cond.methodLink "PennyMore$Reader" (114 : Nat) ({ cls := "PennyMore$Reader", name := "test", desc := "()Z" } : Jvm.MethodName)) ∈ mm_G := mm_gi_3 (i := 72) rfl rfl
theorem gw_610 : (Jvm.Cond.instanceMethod ({ cls := "PennyMore$Reader", name := "test", desc := "()Z" } : Jvm.MethodName)) ∈ mm_G := mm_gi_3 (i := 74) rfl rfl
theorem gw_611 : (Jvm.Cond.selects "PennyMore$Reader" ({ cls := "PennyMore$Reader", name := "test", desc := "()Z" } : Jvm.MethodName) ({ cls := "PennyMore$Reader", name := "test", desc := "()Z" } : Jvm.MethodName)) ∈ mm_G := mm_gi (i := 9) rfl rfl
theorem gw_612 : (Jvm.Cond.methodLink "PennyMore$Reader" (121 : Nat) ({ cls := "java/lang/String", name := "indexOf", desc := "(I)I" } : Jvm.MethodName)) ∈ mm_G := mm_gi_3 (i := 77) rfl rfl
theorem gw_613 : (Jvm.Cond.instanceMethod ({ cls := "java/lang/String", name := "indexOf", desc := "(I)I" } : Jvm.MethodName)) ∈ mm_G := mm_gi_3 (i := 78) rfl rfl
theorem gw_614 : (Jvm.Cond.selects "java/lang/String" ({ cls := "java/lang/String", name := "indexOf", desc := "(I)I" } : Jvm.MethodName) ({ cls := "java/lang/String", name := "indexOf", desc := "(I)I" } : Jvm.MethodName)) ∈ mm_G := mm_gi_3 (i := 79) rfl rfl
theorem gw_615 : (Jvm.Cond.methodLink "PennyMore$Shop" (24 : Nat) ({ cls := "PennyMore$Shop", name := "clear", desc := "()V" } : Jvm.MethodName)) ∈ mm_G := mm_gi_1 (i := 35) rfl rfl
theorem gw_616 : (Jvm.Cond.methodLink "PennyMore$Shop" (46 : Nat) ({ cls := "PennyMore$Shop", name := "holds", desc := "(II[I)Z" } : Jvm.MethodName)) ∈ mm_G := mm_gi_2 (i := 171) rfl rfl
theorem gw_617 : (Jvm.Cond.instanceMethod ({ cls := "PennyMore$Shop", name := "holds", desc := "(II[I)Z" } : Jvm.MethodName)) ∈ mm_G := mm_gi_2 (i := 173) rfl rfl
theorem gw_618 : (Jvm.Cond.selects "PennyMore$Shop" ({ cls := "PennyMore$Shop", name := "holds", desc := "(II[I)Z" } : Jvm.MethodName) ({ cls := "PennyMore$Shop", name := "holds", desc := "(II[I)Z" } : Jvm.MethodName)) ∈ mm_G := mm_gi (i := 0) rfl rfl
theorem gw_619 : (Jvm.Cond.methodLink "PennyMore$Told" (24 : Nat) ({ cls := "PennyMore$Day", name := "mayGoAway", desc := "(I)Z" } : Jvm.MethodName)) ∈ mm_G := mm_gi_3 (i := 222) rfl rfl
theorem gw_620 : (Jvm.Cond.methodLink "PennyMore$Waiting" (23 : Nat) ({ cls := "PennyMore$Day", name := "mayGoAway", desc := "(I)Z" } : Jvm.MethodName)) ∈ mm_G := mm_gi_3 (i := 206) rfl rfl
theorem gw_621 : (Jvm.Cond.methodLink "PennyMore" (73 : Nat) ({ cls := "PennyMore$Day", name := "welcome", desc := "(LPennyMore$Buyer;)V" } : Jvm.MethodName)) ∈ mm_G := mm_gi_2 (i := 135) rfl rfl
theorem gw_622 : (Jvm.Cond.instanceMethod ({ cls := "PennyMore$Day", name := "welcome", desc := "(LPennyMore$Buyer;)V" } : Jvm.MethodName)) ∈ mm_G := mm_gi_2 (i := 136) rfl rfl
theorem gw_623 : (Jvm.Cond.selects "PennyMore$Day" ({ cls := "PennyMore$Day", name := "welcome", desc := "(LPennyMore$Buyer;)V" } : Jvm.MethodName) ({ cls := "PennyMore$Day", name := "welcome", desc := "(LPennyMore$Buyer;)V" } : Jvm.MethodName)) ∈ mm_G := mm_gi_2 (i := 137) rfl rfl
theorem gw_624 : (Jvm.Cond.methodLink "PennyMore" (77 : Nat) ({ cls := "PennyMore$Day", name := "knows", desc := "(I)Z" } : Jvm.MethodName)) ∈ mm_G := mm_gi_2 (i := 147) rfl rfl
theorem gw_625 : (Jvm.Cond.instanceMethod ({ cls := "PennyMore$Day", name := "knows", desc := "(I)Z" } : Jvm.MethodName)) ∈ mm_G := mm_gi_2 (i := 148) rfl rfl
theorem gw_626 : (Jvm.Cond.selects "PennyMore$Day" ({ cls := "PennyMore$Day", name := "knows", desc := "(I)Z" } : Jvm.MethodName) ({ cls := "PennyMore$Day", name := "knows", desc := "(I)Z" } : Jvm.MethodName)) ∈ mm_G := mm_gi_2 (i := 149) rfl rfl
theorem gw_627 : (Jvm.Cond.methodLink "PennyMore" (104 : Nat) ({ cls := "PennyMore$Day", name := "placeOf", desc := "(I)I" } : Jvm.MethodName)) ∈ mm_G := mm_gi_2 (i := 154) rfl rfl
theorem gw_628 : (Jvm.Cond.methodLink "PennyMore" (107 : Nat) ({ cls := "PennyMore$Day", name := "weigh", desc := "(I)V" } : Jvm.MethodName)) ∈ mm_G := mm_gi_2 (i := 158) rfl rfl
theorem gw_629 : (Jvm.Cond.methodLink "PennyMore" (117 : Nat) ({ cls := "PennyMore", name := "rowDigits", desc := "(I)I" } : Jvm.MethodName)) ∈ mm_G := mm_gi_2 (i := 178) rfl rfl
theorem gw_630 : (Jvm.Cond.instanceMethod ({ cls := "PennyMore", name := "rowDigits", desc := "(I)I" } : Jvm.MethodName)) ∈ mm_G := mm_gi_2 (i := 180) rfl rfl
theorem gw_631 : (Jvm.Cond.selects "PennyMore" ({ cls := "PennyMore", name := "rowDigits", desc := "(I)I" } : Jvm.MethodName) ({ cls := "PennyMore", name := "rowDigits", desc := "(I)I" } : Jvm.MethodName)) ∈ mm_G := mm_gi (i := 1) rfl rfl
theorem gw_632 : (Jvm.Cond.methodLink "PennyMore" (127 : Nat) ({ cls := "PennyMore$Day", name := "stand", desc := "(I)V" } : Jvm.MethodName)) ∈ mm_G := mm_gi_2 (i := 199) rfl rfl
theorem gw_633 : (Jvm.Cond.methodLink "PennyMore" (136 : Nat) ({ cls := "PennyMore$Reader", name := "add", desc := "(I)Z" } : Jvm.MethodName)) ∈ mm_G := mm_gi_2 (i := 208) rfl rfl
theorem gw_634 : (Jvm.Cond.instanceMethod ({ cls := "PennyMore$Reader", name := "add", desc := "(I)Z" } : Jvm.MethodName)) ∈ mm_G := mm_gi_2 (i := 209) rfl rfl
theorem gw_635 : (Jvm.Cond.selects "PennyMore$Reader" ({ cls := "PennyMore$Reader", name := "add", desc := "(I)Z" } : Jvm.MethodName) ({ cls := "PennyMore$Reader", name := "add", desc := "(I)Z" } : Jvm.MethodName)) ∈ mm_G := mm_gi_2 (i := 210) rfl rfl
theorem gw_636 : (Jvm.Cond.methodLink "PennyMore" (145 : Nat) ({ cls := "PennyMore$Reader", name := "readInto", desc := "(LPennyMore$Shop;)I" } : Jvm.MethodName)) ∈ mm_G := mm_gi_2 (i := 216) rfl rfl
theorem gw_637 : (Jvm.Cond.instanceMethod ({ cls := "PennyMore$Reader", name := "readInto", desc := "(LPennyMore$Shop;)I" } : Jvm.MethodName)) ∈ mm_G := mm_gi_2 (i := 217) rfl rfl
theorem gw_638 : (Jvm.Cond.selects "PennyMore$Reader" ({ cls := "PennyMore$Reader", name := "readInto", desc := "(LPennyMore$Shop;)I" } : Jvm.MethodName) ({ cls := "PennyMore$Reader", name := "readInto", desc := "(LPennyMore$Shop;)I" } : Jvm.MethodName)) ∈ mm_G := mm_gi_2 (i := 218) rfl rfl
theorem gw_639 : (Jvm.Cond.methodLink "PennyMore" (149 : Nat) ({ cls := "PennyMore$Reader", name := "empty", desc := "()V" } : Jvm.MethodName)) ∈ mm_G := mm_gi_3 (i := 151) rfl rfl
theorem gw_640 : (Jvm.Cond.instanceMethod ({ cls := "PennyMore$Reader", name := "empty", desc := "()V" } : Jvm.MethodName)) ∈ mm_G := mm_gi_3 (i := 152) rfl rfl
theorem gw_641 : (Jvm.Cond.selects "PennyMore$Reader" ({ cls := "PennyMore$Reader", name := "empty", desc := "()V" } : Jvm.MethodName) ({ cls := "PennyMore$Reader", name := "empty", desc := "()V" } : Jvm.MethodName)) ∈ mm_G := mm_gi_3 (i := 153) rfl rfl
theorem gw_642 : (Jvm.Cond.methodLink "PennyMore" (152 : Nat) ({ cls := "PennyMore$Day", name := "open", desc := "(LPennyMore$Shop;)V" } : Jvm.MethodName)) ∈ mm_G := mm_gi_3 (i := 155) rfl rfl
theorem gw_643 : (Jvm.Cond.instanceMethod ({ cls := "PennyMore$Day", name := "open", desc := "(LPennyMore$Shop;)V" } : Jvm.MethodName)) ∈ mm_G := mm_gi_3 (i := 156) rfl rfl
theorem gw_644 : (Jvm.Cond.selects "PennyMore$Day" ({ cls := "PennyMore$Day", name := "open", desc := "(LPennyMore$Shop;)V" } : Jvm.MethodName) ({ cls := "PennyMore$Day", name := "open", desc := "(LPennyMore$Shop;)V" } : Jvm.MethodName)) ∈ mm_G := mm_gi_3 (i := 157) rfl rfl
theorem gw_645 : (Jvm.Cond.methodLink "PennyMore" (180 : Nat) ({ cls := "PennyMore$Day", name := "head", desc := "()I" } : Jvm.MethodName)) ∈ mm_G := mm_gi_3 (i := 164) rfl rfl
theorem gw_646 : (Jvm.Cond.instanceMethod ({ cls := "PennyMore$Day", name := "head", desc := "()I" } : Jvm.MethodName)) ∈ mm_G := mm_gi_3 (i := 165) rfl rfl
theorem gw_647 : (Jvm.Cond.selects "PennyMore$Day" ({ cls := "PennyMore$Day", name := "head", desc := "()I" } : Jvm.MethodName) ({ cls := "PennyMore$Day", name := "head", desc := "()I" } : Jvm.MethodName)) ∈ mm_G := mm_gi_3 (i := 166) rfl rfl
theorem gw_648 : (Jvm.Cond.methodLink "PennyMore" (184 : Nat) ({ cls := "PennyMore$Day", name := "copyOf", desc := "(LPennyMore$Day;)V" } : Jvm.MethodName)) ∈ mm_G := mm_gi_3 (i := 172) rfl rfl
theorem gw_649 : (Jvm.Cond.instanceMethod ({ cls := "PennyMore$Day", name := "copyOf", desc := "(LPennyMore$Day;)V" } : Jvm.MethodName)) ∈ mm_G := mm_gi_3 (i := 173) rfl rfl
theorem gw_650 : (Jvm.Cond.selects "PennyMore$Day" ({ cls := "PennyMore$Day", name := "copyOf", desc := "(LPennyMore$Day;)V" } : Jvm.MethodName) ({ cls := "PennyMore$Day", name := "copyOf", desc := "(LPennyMore$Day;)V" } : Jvm.MethodName)) ∈ mm_G := mm_gi_3 (i := 174) rfl rfl
theorem gw_651 : (Jvm.Cond.methodLink "PennyMore" (188 : Nat) ({ cls := "PennyMore$Day", name := "putAhead", desc := "(I)V" } : Jvm.MethodName)) ∈ mm_G := mm_gi_3 (i := 179) rfl rfl
theorem gw_652 : (Jvm.Cond.instanceMethod ({ cls := "PennyMore$Day", name := "putAhead", desc := "(I)V" } : Jvm.MethodName)) ∈ mm_G := mm_gi_3 (i := 180) rfl rfl
theorem gw_653 : (Jvm.Cond.selects "PennyMore$Day" ({ cls := "PennyMore$Day", name := "putAhead", desc := "(I)V" } : Jvm.MethodName) ({ cls := "PennyMore$Day", name := "putAhead", desc := "(I)V" } : Jvm.MethodName)) ∈ mm_G := mm_gi_3 (i := 181) rfl rfl
theorem gw_654 : (Jvm.Cond.methodLink "PennyMore" (191 : Nat) ({ cls := "PennyMore$Buyer", name := "does", desc := "(LPennyMore$Day;)I" } : Jvm.MethodName)) ∈ mm_G := mm_gi_3 (i := 187) rfl rfl
theorem gw_655 : (Jvm.Cond.methodLink "PennyMore" (195 : Nat) ({ cls := "PennyMore$Day", name := "turnComes", desc := "()Z" } : Jvm.MethodName)) ∈ mm_G := mm_gi_3 (i := 231) rfl rfl
theorem gw_656 : (Jvm.Cond.methodLink "PennyMore" (199 : Nat) ({ cls := "PennyMore$Day", name := "turn", desc := "()I" } : Jvm.MethodName)) ∈ mm_G := mm_gi_3 (i := 235) rfl rfl
theorem gw_657 : (Jvm.Cond.methodLink "PennyMore" (202 : Nat) ({ cls := "PennyMore", name := "runTrial", desc := "()V" } : Jvm.MethodName)) ∈ mm_G := mm_gi_4 (i := 10) rfl rfl
theorem gw_658 : (Jvm.Cond.instanceMethod ({ cls := "PennyMore", name := "runTrial", desc := "()V" } : Jvm.MethodName)) ∈ mm_G := mm_gi_4 (i := 12) rfl rfl
theorem gw_659 : (Jvm.Cond.selects "PennyMore" ({ cls := "PennyMore", name := "runTrial", desc := "()V" } : Jvm.MethodName) ({ cls := "PennyMore", name := "runTrial", desc := "()V" } : Jvm.MethodName)) ∈ mm_G := mm_gi (i := 10) rfl rfl
theorem gw_660 : (Jvm.Cond.methodLink "PennyMore" (205 : Nat) ({ cls := "PennyMore", name := "whoGetsLoaves", desc := "()I" } : Jvm.MethodName)) ∈ mm_G := mm_gi_4 (i := 20) rfl rfl
theorem gw_661 : (Jvm.Cond.instanceMethod ({ cls := "PennyMore", name := "whoGetsLoaves", desc := "()I" } : Jvm.MethodName)) ∈ mm_G := mm_gi_4 (i := 22) rfl rfl
theorem gw_662 : (Jvm.Cond.selects "PennyMore" ({ cls := "PennyMore", name := "whoGetsLoaves", desc := "()I" } : Jvm.MethodName) ({ cls := "PennyMore", name := "whoGetsLoaves", desc := "()I" } : Jvm.MethodName)) ∈ mm_G := mm_gi (i := 11) rfl rfl
theorem gw_663 : (Jvm.Cond.methodLink "PennyMore" (208 : Nat) ({ cls := "PennyMore$Day", name := "mayGoAway", desc := "(I)Z" } : Jvm.MethodName)) ∈ mm_G := mm_gi_4 (i := 28) rfl rfl
theorem gw_664 : (Jvm.Cond.methodLink "PennyMore" (211 : Nat) ({ cls := "PennyMore", name := "gainByFirst", desc := "(III)I" } : Jvm.MethodName)) ∈ mm_G := mm_gi_4 (i := 29) rfl rfl
theorem gw_665 : (Jvm.Cond.instanceMethod ({ cls := "PennyMore", name := "gainByFirst", desc := "(III)I" } : Jvm.MethodName)) ∈ mm_G := mm_gi_4 (i := 31) rfl rfl
theorem gw_666 : (Jvm.Cond.selects "PennyMore" ({ cls := "PennyMore", name := "gainByFirst", desc := "(III)I" } : Jvm.MethodName) ({ cls := "PennyMore", name := "gainByFirst", desc := "(III)I" } : Jvm.MethodName)) ∈ mm_G := mm_gi (i := 12) rfl rfl
theorem gw_667 : (Jvm.Cond.methodLink "PennyMore" (215 : Nat) ({ cls := "PennyMore", name := "findBestLineup", desc := "(I)I" } : Jvm.MethodName)) ∈ mm_G := mm_gi_4 (i := 42) rfl rfl
theorem gw_668 : (Jvm.Cond.instanceMethod ({ cls := "PennyMore", name := "findBestLineup", desc := "(I)I" } : Jvm.MethodName)) ∈ mm_G := mm_gi_4 (i := 44) rfl rfl
theorem gw_669 : (Jvm.Cond.selects "PennyMore" ({ cls := "PennyMore", name := "findBestLineup", desc := "(I)I" } : Jvm.MethodName) ({ cls := "PennyMore", name := "findBestLineup", desc := "(I)I" } : Jvm.MethodName)) ∈ mm_G := mm_gi (i := 13) rfl rfl
theorem gw_670 : (Jvm.Cond.methodLink "PennyMore" (218 : Nat) ({ cls := "PennyMore$Day", name := "toEnd", desc := "()V" } : Jvm.MethodName)) ∈ mm_G := mm_gi_4 (i := 14) rfl rfl
theorem gw_671 : (Jvm.Cond.instanceMethod ({ cls := "PennyMore$Day", name := "toEnd", desc := "()V" } : Jvm.MethodName)) ∈ mm_G := mm_gi_4 (i := 15) rfl rfl
theorem gw_672 : (Jvm.Cond.selects "PennyMore$Day" ({ cls := "PennyMore$Day", name := "toEnd", desc := "()V" } : Jvm.MethodName) ({ cls := "PennyMore$Day", name := "toEnd", desc := "()V" } : Jvm.MethodName)) ∈ mm_G := mm_gi_4 (i := 16) rfl rfl
theorem gw_673 : (Jvm.Cond.methodLink "PennyMore" (221 : Nat) ({ cls := "PennyMore", name := "bothLikeSwap", desc := "(I)Z" } : Jvm.MethodName)) ∈ mm_G := mm_gi_4 (i := 67) rfl rfl
theorem gw_674 : (Jvm.Cond.instanceMethod ({ cls := "PennyMore", name := "bothLikeSwap", desc := "(I)Z" } : Jvm.MethodName)) ∈ mm_G := mm_gi_4 (i := 69) rfl rfl
theorem gw_675 : (Jvm.Cond.selects "PennyMore" ({ cls := "PennyMore", name := "bothLikeSwap", desc := "(I)Z" } : Jvm.MethodName) ({ cls := "PennyMore", name := "bothLikeSwap", desc := "(I)Z" } : Jvm.MethodName)) ∈ mm_G := mm_gi (i := 18) rfl rfl
theorem gw_676 : (Jvm.Cond.methodLink "PennyMore" (226 : Nat) ({ cls := "PennyMore", name := "startLineups", desc := "()V" } : Jvm.MethodName)) ∈ mm_G := mm_gi_4 (i := 46) rfl rfl
theorem gw_677 : (Jvm.Cond.instanceMethod ({ cls := "PennyMore", name := "startLineups", desc := "()V" } : Jvm.MethodName)) ∈ mm_G := mm_gi_4 (i := 48) rfl rfl
theorem gw_678 : (Jvm.Cond.selects "PennyMore" ({ cls := "PennyMore", name := "startLineups", desc := "()V" } : Jvm.MethodName) ({ cls := "PennyMore", name := "startLineups", desc := "()V" } : Jvm.MethodName)) ∈ mm_G := mm_gi (i := 14) rfl rfl
theorem gw_679 : (Jvm.Cond.methodLink "PennyMore" (229 : Nat) ({ cls := "PennyMore", name := "standAsLineup", desc := "()V" } : Jvm.MethodName)) ∈ mm_G := mm_gi_4 (i := 50) rfl rfl
theorem gw_680 : (Jvm.Cond.instanceMethod ({ cls := "PennyMore", name := "standAsLineup", desc := "()V" } : Jvm.MethodName)) ∈ mm_G := mm_gi_4 (i := 52) rfl rfl
theorem gw_681 : (Jvm.Cond.selects "PennyMore" ({ cls := "PennyMore", name := "standAsLineup", desc := "()V" } : Jvm.MethodName) ({ cls := "PennyMore", name := "standAsLineup", desc := "()V" } : Jvm.MethodName)) ∈ mm_G := mm_gi (i := 15) rfl rfl
theorem gw_682 : (Jvm.Cond.methodLink "PennyMore" (232 : Nat) ({ cls := "PennyMore", name := "nextLineup", desc := "()Z" } : Jvm.MethodName)) ∈ mm_G := mm_gi_4 (i := 55) rfl rfl
theorem gw_683 : (Jvm.Cond.instanceMethod ({ cls := "PennyMore", name := "nextLineup", desc := "()Z" } : Jvm.MethodName)) ∈ mm_G := mm_gi_4 (i := 57) rfl rfl
theorem gw_684 : (Jvm.Cond.selects "PennyMore" ({ cls := "PennyMore", name := "nextLineup", desc := "()Z" } : Jvm.MethodName) ({ cls := "PennyMore", name := "nextLineup", desc := "()Z" } : Jvm.MethodName)) ∈ mm_G := mm_gi (i := 16) rfl rfl
theorem gw_685 : (Jvm.Cond.methodLink "PennyMore" (239 : Nat) ({ cls := "PennyMore", name := "nobodyRefuses", desc := "(I)Z" } : Jvm.MethodName)) ∈ mm_G := mm_gi_4 (i := 83) rfl rfl
theorem gw_686 : (Jvm.Cond.instanceMethod ({ cls := "PennyMore", name := "nobodyRefuses", desc := "(I)Z" } : Jvm.MethodName)) ∈ mm_G := mm_gi_4 (i := 85) rfl rfl
theorem gw_687 : (Jvm.Cond.selects "PennyMore" ({ cls := "PennyMore", name := "nobodyRefuses", desc := "(I)Z" } : Jvm.MethodName) ({ cls := "PennyMore", name := "nobodyRefuses", desc := "(I)Z" } : Jvm.MethodName)) ∈ mm_G := mm_gi (i := 19) rfl rfl
theorem gw_688 : (Jvm.Cond.methodLink "PennyMore" (245 : Nat) ({ cls := "PennyMore", name := "takersAt", desc := "(I)I" } : Jvm.MethodName)) ∈ mm_G := mm_gi_4 (i := 91) rfl rfl
theorem gw_689 : (Jvm.Cond.instanceMethod ({ cls := "PennyMore", name := "takersAt", desc := "(I)I" } : Jvm.MethodName)) ∈ mm_G := mm_gi_4 (i := 93) rfl rfl
theorem gw_690 : (Jvm.Cond.selects "PennyMore" ({ cls := "PennyMore", name := "takersAt", desc := "(I)I" } : Jvm.MethodName) ({ cls := "PennyMore", name := "takersAt", desc := "(I)I" } : Jvm.MethodName)) ∈ mm_G := mm_gi (i := 20) rfl rfl
theorem gw_691 : (Jvm.Cond.methodLink "PennyMore" (255 : Nat) ({ cls := "PennyMore$Day", name := "leave", desc := "(I)V" } : Jvm.MethodName)) ∈ mm_G := mm_gi_4 (i := 101) rfl rfl
theorem gw_692 : (Jvm.Cond.methodLink "PennyMore" (261 : Nat) ({ cls := "PennyMore", name := "weightOf", desc := "(I)J" } : Jvm.MethodName)) ∈ mm_G := mm_gi_4 (i := 110) rfl rfl
theorem gw_693 : (Jvm.Cond.instanceMethod ({ cls := "PennyMore", name := "weightOf", desc := "(I)J" } : Jvm.MethodName)) ∈ mm_G := mm_gi_4 (i := 112) rfl rfl
theorem gw_694 : (Jvm.Cond.selects "PennyMore" ({ cls := "PennyMore", name := "weightOf", desc := "(I)J" } : Jvm.MethodName) ({ cls := "PennyMore", name := "weightOf", desc := "(I)J" } : Jvm.MethodName)) ∈ mm_G := mm_gi (i := 21) rfl rfl
theorem gw_695 : (Jvm.Cond.methodLink "PennyMore" (265 : Nat) ({ cls := "PennyMore", name := "whoSaysYes", desc := "(I)I" } : Jvm.MethodName)) ∈ mm_G := mm_gi_4 (i := 114) rfl rfl
theorem gw_696 : (Jvm.Cond.instanceMethod ({ cls := "PennyMore", name := "whoSaysYes", desc := "(I)I" } : Jvm.MethodName)) ∈ mm_G := mm_gi_4 (i := 116) rfl rfl
theorem gw_697 : (Jvm.Cond.selects "PennyMore" ({ cls := "PennyMore", name := "whoSaysYes", desc := "(I)I" } : Jvm.MethodName) ({ cls := "PennyMore", name := "whoSaysYes", desc := "(I)I" } : Jvm.MethodName)) ∈ mm_G := mm_gi (i := 22) rfl rfl
theorem gw_698 : (Jvm.Cond.methodLink "PennyMore" (277 : Nat) ({ cls := "PennyMore$Tape", name := "holdsNothing", desc := "()Z" } : Jvm.MethodName)) ∈ mm_G := mm_gi_4 (i := 133) rfl rfl
theorem gw_699 : (Jvm.Cond.initialized "PennyMore$Tape") ∈ mm_G := mm_gi_1 (i := 5) rfl rfl
