theorem gw_0 : (Jvm.Cond.fieldLink "PennyMore$Buyer" (9 : Nat) "PennyMore$Buyer" "kind" "I") ∈ mm_G := mm_gi_2 (i := 36) rfl rfl
theorem gw_1 : (Jvm.Cond.fieldLink "PennyMore$Buyer" (15 : Nat) "PennyMore$Buyer" "number" "I") ∈ mm_G := mm_gi_2 (i := 39) rfl rfl
theorem gw_2 : (Jvm.Cond.fieldLink "PennyMore$Buyer" (18 : Nat) "PennyMore$Buyer" "v" "I") ∈ mm_G := mm_gi_2 (i := 48) rfl rfl
theorem gw_3 : (Jvm.Cond.fieldLink "PennyMore$Buyer" (21 : Nat) "PennyMore$Buyer" "worth" "I") ∈ mm_G := mm_gi_2 (i := 60) rfl rfl
theorem gw_4 : (Jvm.Cond.fieldLink "PennyMore$Day" (11 : Nat) "PennyMore$Day" "buyers" "[LPennyMore$Buyer;") ∈ mm_G := mm_gi_1 (i := 91) rfl rfl
theorem gw_5 : (Jvm.Cond.fieldLink "PennyMore$Day" (17 : Nat) "PennyMore$Day" "friends" "[I") ∈ mm_G := mm_gi_1 (i := 93) rfl rfl
theorem gw_6 : (Jvm.Cond.fieldLink "PennyMore$Day" (21 : Nat) "PennyMore$Day" "tells" "[I") ∈ mm_G := mm_gi_1 (i := 95) rfl rfl
theorem gw_7 : (Jvm.Cond.fieldLink "PennyMore$Day" (24 : Nat) "PennyMore$Day" "aways" "[I") ∈ mm_G := mm_gi_1 (i := 98) rfl rfl
theorem gw_8 : (Jvm.Cond.fieldLink "PennyMore$Day" (27 : Nat) "PennyMore$Day" "gained" "[I") ∈ mm_G := mm_gi_1 (i := 100) rfl rfl
theorem gw_9 : (Jvm.Cond.fieldLink "PennyMore$Day" (30 : Nat) "PennyMore$Day" "row" "[I") ∈ mm_G := mm_gi_1 (i := 102) rfl rfl
theorem gw_10 : (Jvm.Cond.fieldLink "PennyMore$Day" (33 : Nat) "PennyMore$Day" "film" "[I") ∈ mm_G := mm_gi_1 (i := 104) rfl rfl
theorem gw_11 : (Jvm.Cond.fieldLink "PennyMore$Day" (38 : Nat) "PennyMore$Day" "measures" "[I") ∈ mm_G := mm_gi_1 (i := 106) rfl rfl
theorem gw_12 : (Jvm.Cond.fieldLink "PennyMore$Day" (41 : Nat) "PennyMore$Day" "price" "I") ∈ mm_G := mm_gi_1 (i := 116) rfl rfl
theorem gw_13 : (Jvm.Cond.fieldLink "PennyMore$Day" (45 : Nat) "PennyMore$Day" "loaves" "I") ∈ mm_G := mm_gi_1 (i := 121) rfl rfl
theorem gw_14 : (Jvm.Cond.fieldLink "PennyMore$Day" (48 : Nat) "PennyMore$Day" "shop" "LPennyMore$Shop;") ∈ mm_G := mm_gi_1 (i := 107) rfl rfl
theorem gw_15 : (Jvm.Cond.fieldLink "PennyMore$Day" (52 : Nat) "PennyMore$Shop" "fee" "I") ∈ mm_G := mm_gi_1 (i := 51) rfl rfl
theorem gw_16 : (Jvm.Cond.fieldLink "PennyMore$Day" (55 : Nat) "PennyMore$Day" "fee" "I") ∈ mm_G := mm_gi_1 (i := 109) rfl rfl
theorem gw_17 : (Jvm.Cond.fieldLink "PennyMore$Day" (62 : Nat) "PennyMore$Day" "known" "I") ∈ mm_G := mm_gi_1 (i := 112) rfl rfl
theorem gw_18 : (Jvm.Cond.fieldLink "PennyMore$Day" (65 : Nat) "PennyMore$Day" "standing" "I") ∈ mm_G := mm_gi_1 (i := 114) rfl rfl
theorem gw_19 : (Jvm.Cond.fieldLink "PennyMore$Day" (68 : Nat) "PennyMore$Day" "till" "I") ∈ mm_G := mm_gi_1 (i := 124) rfl rfl
theorem gw_20 : (Jvm.Cond.fieldLink "PennyMore$Day" (71 : Nat) "PennyMore$Day" "turns" "I") ∈ mm_G := mm_gi_1 (i := 126) rfl rfl
theorem gw_21 : (Jvm.Cond.fieldLink "PennyMore$Day" (74 : Nat) "PennyMore$Day" "slips" "I") ∈ mm_G := mm_gi_1 (i := 128) rfl rfl
theorem gw_22 : (Jvm.Cond.fieldLink "PennyMore$Day" (77 : Nat) "PennyMore$Day" "filmed" "I") ∈ mm_G := mm_gi_1 (i := 130) rfl rfl
theorem gw_23 : (Jvm.Cond.fieldLink "PennyMore$Day" (91 : Nat) "PennyMore$Shop" "away" "I") ∈ mm_G := mm_gi_1 (i := 49) rfl rfl
theorem gw_24 : (Jvm.Cond.fieldLink "PennyMore$Day" (94 : Nat) "PennyMore$Day" "value" "I") ∈ mm_G := mm_gi_1 (i := 134) rfl rfl
theorem gw_25 : (Jvm.Cond.fieldLink "PennyMore$Day" (97 : Nat) "PennyMore$Day" "cost" "I") ∈ mm_G := mm_gi_1 (i := 136) rfl rfl
theorem gw_26 : (Jvm.Cond.fieldLink "PennyMore$Day" (100 : Nat) "PennyMore$Buyer" "kind" "I") ∈ mm_G := mm_gi_2 (i := 38) rfl rfl
theorem gw_27 : (Jvm.Cond.fieldLink "PennyMore$Day" (107 : Nat) "PennyMore$Buyer" "worth" "I") ∈ mm_G := mm_gi_2 (i := 62) rfl rfl
theorem gw_28 : (Jvm.Cond.fieldLink "PennyMore$Day" (124 : Nat) "PennyMore$Shop" "up" "I") ∈ mm_G := mm_gi_1 (i := 42) rfl rfl
theorem gw_29 : (Jvm.Cond.fieldLink "PennyMore$Day" (133 : Nat) "PennyMore$Shop" "down" "I") ∈ mm_G := mm_gi_1 (i := 46) rfl rfl
theorem gw_30 : (Jvm.Cond.fieldLink "PennyMore$Falling" (9 : Nat) "PennyMore$Day" "price" "I") ∈ mm_G := mm_gi_1 (i := 117) rfl rfl
theorem gw_31 : (Jvm.Cond.sameField "PennyMore$Falling" "PennyMore$Buyer" "v" "I") ∈ mm_G := mm_gi_2 (i := 50) rfl rfl
theorem gw_32 : (Jvm.Cond.fieldLink "PennyMore$Falling" (15 : Nat) "PennyMore$Falling" "v" "I") ∈ mm_G := mm_gi_2 (i := 49) rfl rfl
theorem gw_33 : (Jvm.Cond.sameField "PennyMore$Falling" "PennyMore$Buyer" "number" "I") ∈ mm_G := mm_gi_2 (i := 43) rfl rfl
theorem gw_34 : (Jvm.Cond.fieldLink "PennyMore$Falling" (20 : Nat) "PennyMore$Falling" "number" "I") ∈ mm_G := mm_gi_2 (i := 42) rfl rfl
theorem gw_35 : (Jvm.Cond.fieldLink "PennyMore$Late" (9 : Nat) "PennyMore$Day" "standing" "I") ∈ mm_G := mm_gi_1 (i := 113) rfl rfl
theorem gw_36 : (Jvm.Cond.sameField "PennyMore$Late" "PennyMore$Buyer" "v" "I") ∈ mm_G := mm_gi_2 (i := 56) rfl rfl
theorem gw_37 : (Jvm.Cond.fieldLink "PennyMore$Late" (15 : Nat) "PennyMore$Late" "v" "I") ∈ mm_G := mm_gi_2 (i := 55) rfl rfl
theorem gw_38 : (Jvm.Cond.sameField "PennyMore$Late" "PennyMore$Buyer" "number" "I") ∈ mm_G := mm_gi_2 (i := 47) rfl rfl
theorem gw_39 : (Jvm.Cond.fieldLink "PennyMore$Late" (20 : Nat) "PennyMore$Late" "number" "I") ∈ mm_G := mm_gi_2 (i := 46) rfl rfl
theorem gw_40 : (Jvm.Cond.sameField "PennyMore$Plain" "PennyMore$Buyer" "v" "I") ∈ mm_G := mm_gi_2 (i := 52) rfl rfl
theorem gw_41 : (Jvm.Cond.fieldLink "PennyMore$Plain" (15 : Nat) "PennyMore$Plain" "v" "I") ∈ mm_G := mm_gi_2 (i := 51) rfl rfl
theorem gw_42 : (Jvm.Cond.fieldLink "PennyMore$Reader" (9 : Nat) "PennyMore$Reader" "text" "[I") ∈ mm_G := mm_gi_1 (i := 187) rfl rfl
theorem gw_43 : (Jvm.Cond.fieldLink "PennyMore$Reader" (13 : Nat) "PennyMore$Reader" "size" "I") ∈ mm_G := mm_gi_1 (i := 185) rfl rfl
theorem gw_44 : (Jvm.Cond.fieldLink "PennyMore$Reader" (17 : Nat) "PennyMore$Reader" "shop" "LPennyMore$Shop;") ∈ mm_G := mm_gi_1 (i := 189) rfl rfl
theorem gw_45 : (Jvm.Cond.fieldLink "PennyMore$Reader" (26 : Nat) "PennyMore$Reader" "at" "I") ∈ mm_G := mm_gi_1 (i := 188) rfl rfl
theorem gw_46 : (Jvm.Cond.fieldLink "PennyMore$Reader" (86 : Nat) "PennyMore$Shop" "up" "I") ∈ mm_G := mm_gi_1 (i := 40) rfl rfl
theorem gw_47 : (Jvm.Cond.fieldLink "PennyMore$Reader" (89 : Nat) "PennyMore$Shop" "down" "I") ∈ mm_G := mm_gi_1 (i := 44) rfl rfl
theorem gw_48 : (Jvm.Cond.fieldLink "PennyMore$Reader" (98 : Nat) "PennyMore$Shop" "away" "I") ∈ mm_G := mm_gi_1 (i := 48) rfl rfl
theorem gw_49 : (Jvm.Cond.fieldLink "PennyMore$Reader" (101 : Nat) "PennyMore$Shop" "fee" "I") ∈ mm_G := mm_gi_1 (i := 53) rfl rfl
theorem gw_50 : (Jvm.Cond.fieldLink "PennyMore$Shop" (9 : Nat) "PennyMore$Shop" "sorts" "[I") ∈ mm_G := mm_gi_1 (i := 55) rfl rfl
theorem gw_51 : (Jvm.Cond.fieldLink "PennyMore$Shop" (13 : Nat) "PennyMore$Shop" "amounts" "[I") ∈ mm_G := mm_gi_1 (i := 56) rfl rfl
theorem gw_52 : (Jvm.Cond.fieldLink "PennyMore$Shop" (16 : Nat) "PennyMore$Shop" "ends" "[I") ∈ mm_G := mm_gi_1 (i := 57) rfl rfl
theorem gw_53 : (Jvm.Cond.fieldLink "PennyMore$Shop" (21 : Nat) "PennyMore$Shop" "code" "[I") ∈ mm_G := mm_gi_1 (i := 58) rfl rfl
theorem gw_54 : (Jvm.Cond.fieldLink "PennyMore$Shop" (27 : Nat) "PennyMore$Shop" "clauses" "I") ∈ mm_G := mm_gi_1 (i := 59) rfl rfl
theorem gw_55 : (Jvm.Cond.fieldLink "PennyMore$Shop" (31 : Nat) "PennyMore$Shop" "coded" "I") ∈ mm_G := mm_gi_1 (i := 60) rfl rfl
theorem gw_56 : (Jvm.Cond.fieldLink "PennyMore$Shop" (34 : Nat) "PennyMore$Shop" "up" "I") ∈ mm_G := mm_gi_1 (i := 39) rfl rfl
theorem gw_57 : (Jvm.Cond.fieldLink "PennyMore$Shop" (37 : Nat) "PennyMore$Shop" "down" "I") ∈ mm_G := mm_gi_1 (i := 43) rfl rfl
theorem gw_58 : (Jvm.Cond.fieldLink "PennyMore$Shop" (40 : Nat) "PennyMore$Shop" "away" "I") ∈ mm_G := mm_gi_1 (i := 47) rfl rfl
theorem gw_59 : (Jvm.Cond.fieldLink "PennyMore$Shop" (43 : Nat) "PennyMore$Shop" "fee" "I") ∈ mm_G := mm_gi_1 (i := 52) rfl rfl
theorem gw_60 : (Jvm.Cond.fieldLink "PennyMore$Sure" (9 : Nat) "PennyMore$Day" "loaves" "I") ∈ mm_G := mm_gi_1 (i := 122) rfl rfl
theorem gw_61 : (Jvm.Cond.sameField "PennyMore$Sure" "PennyMore$Buyer" "v" "I") ∈ mm_G := mm_gi_2 (i := 54) rfl rfl
theorem gw_62 : (Jvm.Cond.fieldLink "PennyMore$Sure" (15 : Nat) "PennyMore$Sure" "v" "I") ∈ mm_G := mm_gi_2 (i := 53) rfl rfl
theorem gw_63 : (Jvm.Cond.fieldLink "PennyMore$Tape" (9 : Nat) "PennyMore$Tape" "items" "[J") ∈ mm_G := mm_gi_1 (i := 206) rfl rfl
theorem gw_64 : (Jvm.Cond.fieldLink "PennyMore$Tape" (13 : Nat) "PennyMore$Tape" "sort" "I") ∈ mm_G := mm_gi_1 (i := 208) rfl rfl
theorem gw_65 : (Jvm.Cond.fieldLink "PennyMore$Tape" (17 : Nat) "PennyMore$Tape" "size" "I") ∈ mm_G := mm_gi_1 (i := 210) rfl rfl
theorem gw_66 : (Jvm.Cond.fieldLink "PennyMore$Told" (9 : Nat) "PennyMore$Day" "tells" "[I") ∈ mm_G := mm_gi_1 (i := 96) rfl rfl
theorem gw_67 : (Jvm.Cond.sameField "PennyMore$Told" "PennyMore$Buyer" "number" "I") ∈ mm_G := mm_gi_2 (i := 41) rfl rfl
theorem gw_68 : (Jvm.Cond.fieldLink "PennyMore$Told" (15 : Nat) "PennyMore$Told" "number" "I") ∈ mm_G := mm_gi_2 (i := 40) rfl rfl
theorem gw_69 : (Jvm.Cond.fieldLink "PennyMore$Told" (21 : Nat) "PennyMore$Day" "price" "I") ∈ mm_G := mm_gi_1 (i := 119) rfl rfl
theorem gw_70 : (Jvm.Cond.sameField "PennyMore$Told" "PennyMore$Buyer" "v" "I") ∈ mm_G := mm_gi_2 (i := 59) rfl rfl
theorem gw_71 : (Jvm.Cond.fieldLink "PennyMore$Told" (43 : Nat) "PennyMore$Told" "v" "I") ∈ mm_G := mm_gi_2 (i := 58) rfl rfl
theorem gw_72 : (Jvm.Cond.fieldLink "PennyMore$Waiting" (9 : Nat) "PennyMore$Day" "value" "I") ∈ mm_G := mm_gi_1 (i := 132) rfl rfl
theorem gw_73 : (Jvm.Cond.fieldLink "PennyMore$Waiting" (15 : Nat) "PennyMore$Day" "price" "I") ∈ mm_G := mm_gi_1 (i := 118) rfl rfl
theorem gw_74 : (Jvm.Cond.sameField "PennyMore$Waiting" "PennyMore$Buyer" "number" "I") ∈ mm_G := mm_gi_2 (i := 45) rfl rfl
theorem gw_75 : (Jvm.Cond.fieldLink "PennyMore$Waiting" (18 : Nat) "PennyMore$Waiting" "number" "I") ∈ mm_G := mm_gi_2 (i := 44) rfl rfl
theorem gw_76 : (Jvm.Cond.fieldLink "PennyMore" (17 : Nat) "PennyMore" "now" "LPennyMore$Day;") ∈ mm_G := mm_gi_1 (i := 220) rfl rfl
theorem gw_77 : (Jvm.Cond.fieldLink "PennyMore" (23 : Nat) "PennyMore" "image" "LPennyMore$Day;") ∈ mm_G := mm_gi_1 (i := 221) rfl rfl
theorem gw_78 : (Jvm.Cond.fieldLink "PennyMore" (26 : Nat) "PennyMore" "trial" "LPennyMore$Day;") ∈ mm_G := mm_gi_1 (i := 222) rfl rfl
theorem gw_79 : (Jvm.Cond.fieldLink "PennyMore" (29 : Nat) "PennyMore" "base" "LPennyMore$Day;") ∈ mm_G := mm_gi_1 (i := 223) rfl rfl
theorem gw_80 : (Jvm.Cond.fieldLink "PennyMore" (32 : Nat) "PennyMore" "shops" "[LPennyMore$Shop;") ∈ mm_G := mm_gi_1 (i := 224) rfl rfl
theorem gw_81 : (Jvm.Cond.fieldLink "PennyMore" (39 : Nat) "PennyMore" "reader" "LPennyMore$Reader;") ∈ mm_G := mm_gi_1 (i := 225) rfl rfl
theorem gw_82 : (Jvm.Cond.fieldLink "PennyMore" (45 : Nat) "PennyMore" "tapes" "[LPennyMore$Tape;") ∈ mm_G := mm_gi_1 (i := 226) rfl rfl
theorem gw_83 : (Jvm.Cond.fieldLink "PennyMore" (50 : Nat) "PennyMore" "ran" "[I") ∈ mm_G := mm_gi_1 (i := 227) rfl rfl
theorem gw_84 : (Jvm.Cond.fieldLink "PennyMore" (54 : Nat) "PennyMore" "lineup" "[I") ∈ mm_G := mm_gi_1 (i := 228) rfl rfl
theorem gw_85 : (Jvm.Cond.fieldLink "PennyMore" (57 : Nat) "PennyMore" "bestLineup" "[I") ∈ mm_G := mm_gi_1 (i := 229) rfl rfl
theorem gw_86 : (Jvm.Cond.fieldLink "PennyMore" (60 : Nat) "PennyMore" "values" "[I") ∈ mm_G := mm_gi_1 (i := 230) rfl rfl
theorem gw_87 : (Jvm.Cond.fieldLink "PennyMore" (65 : Nat) "PennyMore$Day" "known" "I") ∈ mm_G := mm_gi_1 (i := 111) rfl rfl
theorem gw_88 : (Jvm.Cond.fieldLink "PennyMore" (81 : Nat) "PennyMore$Day" "buyers" "[LPennyMore$Buyer;") ∈ mm_G := mm_gi_1 (i := 92) rfl rfl
theorem gw_89 : (Jvm.Cond.fieldLink "PennyMore" (85 : Nat) "PennyMore$Buyer" "kind" "I") ∈ mm_G := mm_gi_2 (i := 37) rfl rfl
theorem gw_90 : (Jvm.Cond.fieldLink "PennyMore" (88 : Nat) "PennyMore$Buyer" "v" "I") ∈ mm_G := mm_gi_2 (i := 57) rfl rfl
theorem gw_91 : (Jvm.Cond.fieldLink "PennyMore" (91 : Nat) "PennyMore$Buyer" "worth" "I") ∈ mm_G := mm_gi_2 (i := 61) rfl rfl
theorem gw_92 : (Jvm.Cond.fieldLink "PennyMore" (94 : Nat) "PennyMore$Day" "friends" "[I") ∈ mm_G := mm_gi_1 (i := 94) rfl rfl
theorem gw_93 : (Jvm.Cond.fieldLink "PennyMore" (101 : Nat) "PennyMore$Day" "aways" "[I") ∈ mm_G := mm_gi_1 (i := 99) rfl rfl
theorem gw_94 : (Jvm.Cond.fieldLink "PennyMore" (111 : Nat) "PennyMore$Day" "value" "I") ∈ mm_G := mm_gi_1 (i := 133) rfl rfl
theorem gw_95 : (Jvm.Cond.fieldLink "PennyMore" (114 : Nat) "PennyMore$Day" "cost" "I") ∈ mm_G := mm_gi_1 (i := 135) rfl rfl
theorem gw_96 : (Jvm.Cond.fieldLink "PennyMore" (120 : Nat) "PennyMore$Day" "gained" "[I") ∈ mm_G := mm_gi_1 (i := 101) rfl rfl
theorem gw_97 : (Jvm.Cond.fieldLink "PennyMore" (124 : Nat) "PennyMore$Day" "tells" "[I") ∈ mm_G := mm_gi_1 (i := 97) rfl rfl
theorem gw_98 : (Jvm.Cond.fieldLink "PennyMore" (130 : Nat) "PennyMore$Day" "price" "I") ∈ mm_G := mm_gi_1 (i := 120) rfl rfl
theorem gw_99 : (Jvm.Cond.fieldLink "PennyMore" (133 : Nat) "PennyMore$Day" "loaves" "I") ∈ mm_G := mm_gi_1 (i := 123) rfl rfl
theorem gw_100 : (Jvm.Cond.fieldLink "PennyMore" (139 : Nat) "PennyMore$Reader" "size" "I") ∈ mm_G := mm_gi_1 (i := 186) rfl rfl
theorem gw_101 : (Jvm.Cond.fieldLink "PennyMore" (142 : Nat) "PennyMore" "shopsRead" "I") ∈ mm_G := mm_gi_1 (i := 231) rfl rfl
theorem gw_102 : (Jvm.Cond.fieldLink "PennyMore" (155 : Nat) "PennyMore$Day" "shop" "LPennyMore$Shop;") ∈ mm_G := mm_gi_1 (i := 108) rfl rfl
theorem gw_103 : (Jvm.Cond.fieldLink "PennyMore" (159 : Nat) "PennyMore$Shop" "up" "I") ∈ mm_G := mm_gi_1 (i := 41) rfl rfl
theorem gw_104 : (Jvm.Cond.fieldLink "PennyMore" (162 : Nat) "PennyMore$Shop" "down" "I") ∈ mm_G := mm_gi_1 (i := 45) rfl rfl
theorem gw_105 : (Jvm.Cond.fieldLink "PennyMore" (165 : Nat) "PennyMore$Shop" "away" "I") ∈ mm_G := mm_gi_1 (i := 50) rfl rfl
theorem gw_106 : (Jvm.Cond.fieldLink "PennyMore" (168 : Nat) "PennyMore$Shop" "fee" "I") ∈ mm_G := mm_gi_1 (i := 54) rfl rfl
theorem gw_107 : (Jvm.Cond.fieldLink "PennyMore" (171 : Nat) "PennyMore$Day" "till" "I") ∈ mm_G := mm_gi_1 (i := 125) rfl rfl
theorem gw_108 : (Jvm.Cond.fieldLink "PennyMore" (174 : Nat) "PennyMore$Day" "turns" "I") ∈ mm_G := mm_gi_1 (i := 127) rfl rfl
theorem gw_109 : (Jvm.Cond.fieldLink "PennyMore" (177 : Nat) "PennyMore$Day" "standing" "I") ∈ mm_G := mm_gi_1 (i := 115) rfl rfl
theorem gw_110 : (Jvm.Cond.fieldLink "PennyMore" (242 : Nat) "PennyMore$Day" "row" "[I") ∈ mm_G := mm_gi_1 (i := 103) rfl rfl
theorem gw_111 : (Jvm.Cond.fieldLink "PennyMore" (258 : Nat) "PennyMore$Day" "slips" "I") ∈ mm_G := mm_gi_1 (i := 129) rfl rfl
theorem gw_112 : (Jvm.Cond.fieldLink "PennyMore" (268 : Nat) "PennyMore$Day" "filmed" "I") ∈ mm_G := mm_gi_1 (i := 131) rfl rfl
theorem gw_113 : (Jvm.Cond.fieldLink "PennyMore" (271 : Nat) "PennyMore$Day" "film" "[I") ∈ mm_G := mm_gi_1 (i := 105) rfl rfl
theorem gw_114 : (Jvm.Cond.fieldLink "PennyMore" (280 : Nat) "PennyMore$Tape" "sort" "I") ∈ mm_G := mm_gi_1 (i := 209) rfl rfl
theorem gw_115 : (Jvm.Cond.fieldLink "PennyMore" (283 : Nat) "PennyMore$Tape" "size" "I") ∈ mm_G := mm_gi_1 (i := 211) rfl rfl
theorem gw_116 : (Jvm.Cond.fieldLink "PennyMore" (284 : Nat) "PennyMore$Tape" "items" "[J") ∈ mm_G := mm_gi_1 (i := 207) rfl rfl
theorem gw_117 : (Jvm.Cond.fieldLink "PennyMore" (288 : Nat) "PennyMore" "imageTaken" "Z") ∈ mm_G := mm_gi_1 (i := 232) rfl rfl
theorem gw_118 : (Jvm.Cond.fieldLink "PennyMore" (347 : Nat) "PennyMore$Day" "fee" "I") ∈ mm_G := mm_gi_1 (i := 110) rfl rfl
theorem gw_119 : (Jvm.Cond.fieldLink "PennyMoreModel" (9 : Nat) "PennyMoreModel" "kind" "[I") ∈ mm_G := mm_gi_5 (i := 47) rfl rfl
theorem gw_120 : (Jvm.Cond.fieldLink "PennyMoreModel" (15 : Nat) "PennyMoreModel" "number" "[I") ∈ mm_G := mm_gi_5 (i := 48) rfl rfl
theorem gw_121 : (Jvm.Cond.fieldLink "PennyMoreModel" (18 : Nat) "PennyMoreModel" "worth" "[I") ∈ mm_G := mm_gi_5 (i := 49) rfl rfl
theorem gw_122 : (Jvm.Cond.fieldLink "PennyMoreModel" (21 : Nat) "PennyMoreModel" "friend" "[I") ∈ mm_G := mm_gi_5 (i := 50) rfl rfl
theorem gw_123 : (Jvm.Cond.fieldLink "PennyMoreModel" (24 : Nat) "PennyMoreModel" "aways" "[I") ∈ mm_G := mm_gi_5 (i := 51) rfl rfl
theorem gw_124 : (Jvm.Cond.fieldLink "PennyMoreModel" (27 : Nat) "PennyMoreModel" "gained" "[I") ∈ mm_G := mm_gi_5 (i := 52) rfl rfl
theorem gw_125 : (Jvm.Cond.fieldLink "PennyMoreModel" (30 : Nat) "PennyMoreModel" "tells" "[I") ∈ mm_G := mm_gi_5 (i := 53) rfl rfl
theorem gw_126 : (Jvm.Cond.fieldLink "PennyMoreModel" (33 : Nat) "PennyMoreModel" "row" "[I") ∈ mm_G := mm_gi_5 (i := 55) rfl rfl
theorem gw_127 : (Jvm.Cond.fieldLink "PennyMoreModel" (36 : Nat) "PennyMoreModel" "price" "I") ∈ mm_G := mm_gi_5 (i := 56) rfl rfl
theorem gw_128 : (Jvm.Cond.fieldLink "PennyMoreModel" (40 : Nat) "PennyMoreModel" "loaves" "I") ∈ mm_G := mm_gi_5 (i := 57) rfl rfl
theorem gw_129 : (Jvm.Cond.fieldLink "PennyMoreModel" (43 : Nat) "PennyMoreModel" "film" "[I") ∈ mm_G := mm_gi_5 (i := 62) rfl rfl
theorem gw_130 : (Jvm.Cond.fieldLink "PennyMoreModel" (46 : Nat) "PennyMoreModel" "holding" "I") ∈ mm_G := mm_gi_5 (i := 64) rfl rfl
theorem gw_131 : (Jvm.Cond.fieldLink "PennyMoreModel" (49 : Nat) "PennyMoreModel" "clauses" "[I") ∈ mm_G := mm_gi_5 (i := 65) rfl rfl
theorem gw_132 : (Jvm.Cond.fieldLink "PennyMoreModel" (52 : Nat) "PennyMoreModel" "clauseWord" "[I") ∈ mm_G := mm_gi_5 (i := 66) rfl rfl
theorem gw_133 : (Jvm.Cond.fieldLink "PennyMoreModel" (55 : Nat) "PennyMoreModel" "clauseN" "[I") ∈ mm_G := mm_gi_5 (i := 67) rfl rfl
theorem gw_134 : (Jvm.Cond.fieldLink "PennyMoreModel" (58 : Nat) "PennyMoreModel" "clauseFrom" "[I") ∈ mm_G := mm_gi_5 (i := 68) rfl rfl
theorem gw_135 : (Jvm.Cond.fieldLink "PennyMoreModel" (61 : Nat) "PennyMoreModel" "clauseTo" "[I") ∈ mm_G := mm_gi_5 (i := 69) rfl rfl
theorem gw_136 : (Jvm.Cond.fieldLink "PennyMoreModel" (64 : Nat) "PennyMoreModel" "codes" "[I") ∈ mm_G := mm_gi_5 (i := 70) rfl rfl
theorem gw_137 : (Jvm.Cond.fieldLink "PennyMoreModel" (67 : Nat) "PennyMoreModel" "text" "[I") ∈ mm_G := mm_gi_5 (i := 71) rfl rfl
theorem gw_138 : (Jvm.Cond.fieldLink "PennyMoreModel" (70 : Nat) "PennyMoreModel" "feeFor" "I") ∈ mm_G := mm_gi_5 (i := 73) rfl rfl
theorem gw_139 : (Jvm.Cond.fieldLink "PennyMoreModel" (73 : Nat) "PennyMoreModel" "trace" "[I") ∈ mm_G := mm_gi_5 (i := 75) rfl rfl
theorem gw_140 : (Jvm.Cond.fieldLink "PennyMoreModel" (76 : Nat) "PennyMoreModel" "tapeSort" "[I") ∈ mm_G := mm_gi_5 (i := 76) rfl rfl
theorem gw_141 : (Jvm.Cond.fieldLink "PennyMoreModel" (79 : Nat) "PennyMoreModel" "tapeSize" "[I") ∈ mm_G := mm_gi_5 (i := 77) rfl rfl
theorem gw_142 : (Jvm.Cond.fieldLink "PennyMoreModel" (82 : Nat) "PennyMoreModel" "items" "[J") ∈ mm_G := mm_gi_5 (i := 78) rfl rfl
theorem gw_143 : (Jvm.Cond.fieldLink "PennyMoreModel" (86 : Nat) "PennyMoreModel" "words" "[I") ∈ mm_G := mm_gi_5 (i := 79) rfl rfl
theorem gw_144 : (Jvm.Cond.fieldLink "PennyMoreModel" (89 : Nat) "PennyMoreModel" "wordLong" "[I") ∈ mm_G := mm_gi_5 (i := 80) rfl rfl
theorem gw_145 : (Jvm.Cond.fieldLink "PennyMoreModel" (92 : Nat) "PennyMoreModel" "letters" "[I") ∈ mm_G := mm_gi_5 (i := 81) rfl rfl
theorem gw_146 : (Jvm.Cond.fieldLink "PennyMoreModel" (95 : Nat) "PennyMoreModel" "waits" "[I") ∈ mm_G := mm_gi_5 (i := 84) rfl rfl
theorem gw_147 : (Jvm.Cond.fieldLink "PennyMoreModel" (98 : Nat) "PennyMoreModel" "stack" "[Z") ∈ mm_G := mm_gi_5 (i := 87) rfl rfl
theorem gw_148 : (Jvm.Cond.fieldLink "PennyMoreModel" (102 : Nat) "PennyMoreModel" "keptRow" "[I") ∈ mm_G := mm_gi_5 (i := 90) rfl rfl
theorem gw_149 : (Jvm.Cond.fieldLink "PennyMoreModel" (105 : Nat) "PennyMoreModel" "keptAways" "[I") ∈ mm_G := mm_gi_5 (i := 91) rfl rfl
theorem gw_150 : (Jvm.Cond.fieldLink "PennyMoreModel" (108 : Nat) "PennyMoreModel" "keptGained" "[I") ∈ mm_G := mm_gi_5 (i := 92) rfl rfl
theorem gw_151 : (Jvm.Cond.fieldLink "PennyMoreModel" (111 : Nat) "PennyMoreModel" "sorted" "[I") ∈ mm_G := mm_gi_5 (i := 98) rfl rfl
theorem gw_152 : (Jvm.Cond.fieldLink "PennyMoreModel" (114 : Nat) "PennyMoreModel" "deepRow" "[I") ∈ mm_G := mm_gi_5 (i := 101) rfl rfl
theorem gw_153 : (Jvm.Cond.fieldLink "PennyMoreModel" (117 : Nat) "PennyMoreModel" "deepAways" "[I") ∈ mm_G := mm_gi_5 (i := 102) rfl rfl
theorem gw_154 : (Jvm.Cond.fieldLink "PennyMoreModel" (120 : Nat) "PennyMoreModel" "deepGained" "[I") ∈ mm_G := mm_gi_5 (i := 103) rfl rfl
theorem gw_155 : (Jvm.Cond.fieldLink "PennyMoreModel" (123 : Nat) "PennyMoreModel" "deepNumbers" "[I") ∈ mm_G := mm_gi_5 (i := 104) rfl rfl
theorem gw_156 : (Jvm.Cond.fieldLink "PennyMoreModel" (126 : Nat) "PennyMoreModel" "imageKind" "[I") ∈ mm_G := mm_gi_5 (i := 110) rfl rfl
theorem gw_157 : (Jvm.Cond.fieldLink "PennyMoreModel" (129 : Nat) "PennyMoreModel" "imageNumber" "[I") ∈ mm_G := mm_gi_5 (i := 111) rfl rfl
theorem gw_158 : (Jvm.Cond.fieldLink "PennyMoreModel" (132 : Nat) "PennyMoreModel" "imageWorth" "[I") ∈ mm_G := mm_gi_5 (i := 112) rfl rfl
theorem gw_159 : (Jvm.Cond.fieldLink "PennyMoreModel" (135 : Nat) "PennyMoreModel" "imageFriend" "[I") ∈ mm_G := mm_gi_5 (i := 113) rfl rfl
theorem gw_160 : (Jvm.Cond.fieldLink "PennyMoreModel" (138 : Nat) "PennyMoreModel" "imageAways" "[I") ∈ mm_G := mm_gi_5 (i := 114) rfl rfl
theorem gw_161 : (Jvm.Cond.fieldLink "PennyMoreModel" (141 : Nat) "PennyMoreModel" "imageGained" "[I") ∈ mm_G := mm_gi_5 (i := 115) rfl rfl
theorem gw_162 : (Jvm.Cond.fieldLink "PennyMoreModel" (144 : Nat) "PennyMoreModel" "imageTells" "[I") ∈ mm_G := mm_gi_5 (i := 116) rfl rfl
theorem gw_163 : (Jvm.Cond.fieldLink "PennyMoreModel" (147 : Nat) "PennyMoreModel" "imageRow" "[I") ∈ mm_G := mm_gi_5 (i := 117) rfl rfl
theorem gw_164 : (Jvm.Cond.fieldLink "PennyMoreModel" (150 : Nat) "PennyMoreModel" "imageNumbers" "[I") ∈ mm_G := mm_gi_5 (i := 118) rfl rfl
theorem gw_165 : (Jvm.Cond.fieldLink "PennyMoreModel" (153 : Nat) "PennyMoreModel" "imageFilm" "[I") ∈ mm_G := mm_gi_5 (i := 119) rfl rfl
theorem gw_166 : (Jvm.Cond.fieldLink "PennyMoreModel" (156 : Nat) "PennyMoreModel" "shifted" "[J") ∈ mm_G := mm_gi_5 (i := 121) rfl rfl
theorem gw_167 : (Jvm.Cond.fieldLink "PennyMoreModel" (159 : Nat) "PennyMoreModel" "buyers" "I") ∈ mm_G := mm_gi_5 (i := 46) rfl rfl
theorem gw_168 : (Jvm.Cond.fieldLink "PennyMoreModel" (166 : Nat) "PennyMoreModel" "inRow" "I") ∈ mm_G := mm_gi_5 (i := 54) rfl rfl
theorem gw_169 : (Jvm.Cond.fieldLink "PennyMoreModel" (184 : Nat) "PennyMoreModel" "written" "I") ∈ mm_G := mm_gi_5 (i := 72) rfl rfl
theorem gw_170 : (Jvm.Cond.fieldLink "PennyMoreModel" (187 : Nat) "PennyMoreModel" "at0" "I") ∈ mm_G := mm_gi_5 (i := 82) rfl rfl
theorem gw_171 : (Jvm.Cond.fieldLink "PennyMoreModel" (200 : Nat) "PennyMoreModel" "coded" "I") ∈ mm_G := mm_gi_5 (i := 83) rfl rfl
theorem gw_172 : (Jvm.Cond.fieldLink "PennyMoreModel" (209 : Nat) "PennyMoreModel" "waitMany" "I") ∈ mm_G := mm_gi_5 (i := 85) rfl rfl
theorem gw_173 : (Jvm.Cond.fieldLink "PennyMoreModel" (212 : Nat) "PennyMoreModel" "opened" "I") ∈ mm_G := mm_gi_5 (i := 86) rfl rfl
theorem gw_174 : (Jvm.Cond.fieldLink "PennyMoreModel" (237 : Nat) "PennyMoreModel" "shops" "I") ∈ mm_G := mm_gi_5 (i := 63) rfl rfl
theorem gw_175 : (Jvm.Cond.fieldLink "PennyMoreModel" (257 : Nat) "PennyMoreModel" "till" "I") ∈ mm_G := mm_gi_5 (i := 58) rfl rfl
theorem gw_176 : (Jvm.Cond.fieldLink "PennyMoreModel" (260 : Nat) "PennyMoreModel" "turns" "I") ∈ mm_G := mm_gi_5 (i := 59) rfl rfl
theorem gw_177 : (Jvm.Cond.fieldLink "PennyMoreModel" (284 : Nat) "PennyMoreModel" "bought" "I") ∈ mm_G := mm_gi_5 (i := 88) rfl rfl
theorem gw_178 : (Jvm.Cond.fieldLink "PennyMoreModel" (287 : Nat) "PennyMoreModel" "refused" "I") ∈ mm_G := mm_gi_5 (i := 89) rfl rfl
theorem gw_179 : (Jvm.Cond.fieldLink "PennyMoreModel" (296 : Nat) "PennyMoreModel" "keptIn" "I") ∈ mm_G := mm_gi_5 (i := 93) rfl rfl
theorem gw_180 : (Jvm.Cond.fieldLink "PennyMoreModel" (299 : Nat) "PennyMoreModel" "keptPrice" "I") ∈ mm_G := mm_gi_5 (i := 94) rfl rfl
theorem gw_181 : (Jvm.Cond.fieldLink "PennyMoreModel" (302 : Nat) "PennyMoreModel" "keptLoaves" "I") ∈ mm_G := mm_gi_5 (i := 95) rfl rfl
theorem gw_182 : (Jvm.Cond.fieldLink "PennyMoreModel" (305 : Nat) "PennyMoreModel" "keptTill" "I") ∈ mm_G := mm_gi_5 (i := 96) rfl rfl
theorem gw_183 : (Jvm.Cond.fieldLink "PennyMoreModel" (308 : Nat) "PennyMoreModel" "keptTurns" "I") ∈ mm_G := mm_gi_5 (i := 97) rfl rfl
theorem gw_184 : (Jvm.Cond.fieldLink "PennyMoreModel" (340 : Nat) "PennyMoreModel" "odds" "I") ∈ mm_G := mm_gi_5 (i := 60) rfl rfl
theorem gw_185 : (Jvm.Cond.fieldLink "PennyMoreModel" (343 : Nat) "PennyMoreModel" "tooLong" "Z") ∈ mm_G := mm_gi_5 (i := 100) rfl rfl
theorem gw_186 : (Jvm.Cond.fieldLink "PennyMoreModel" (356 : Nat) "PennyMoreModel" "sureAbove" "J") ∈ mm_G := mm_gi_5 (i := 99) rfl rfl
theorem gw_187 : (Jvm.Cond.fieldLink "PennyMoreModel" (365 : Nat) "PennyMoreModel" "filmed" "I") ∈ mm_G := mm_gi_5 (i := 61) rfl rfl
theorem gw_188 : (Jvm.Cond.fieldLink "PennyMoreModel" (371 : Nat) "PennyMoreModel" "hasImage" "Z") ∈ mm_G := mm_gi_5 (i := 105) rfl rfl
theorem gw_189 : (Jvm.Cond.fieldLink "PennyMoreModel" (374 : Nat) "PennyMoreModel" "imageBuyers" "I") ∈ mm_G := mm_gi_5 (i := 106) rfl rfl
theorem gw_190 : (Jvm.Cond.fieldLink "PennyMoreModel" (377 : Nat) "PennyMoreModel" "imageOdds" "I") ∈ mm_G := mm_gi_5 (i := 107) rfl rfl
theorem gw_191 : (Jvm.Cond.fieldLink "PennyMoreModel" (380 : Nat) "PennyMoreModel" "imageFilmed" "I") ∈ mm_G := mm_gi_5 (i := 108) rfl rfl
theorem gw_192 : (Jvm.Cond.fieldLink "PennyMoreModel" (383 : Nat) "PennyMoreModel" "imageHolding" "I") ∈ mm_G := mm_gi_5 (i := 109) rfl rfl
theorem gw_193 : (Jvm.Cond.fieldLink "PennyMoreModel" (386 : Nat) "PennyMoreModel" "ran" "I") ∈ mm_G := mm_gi_5 (i := 74) rfl rfl
theorem gw_194 : (Jvm.Cond.fieldLink "PennyMoreModel" (398 : Nat) "PennyMoreModel" "acting" "I") ∈ mm_G := mm_gi_5 (i := 120) rfl rfl
theorem gw_195 : (Jvm.Cond.code ({ cls := "PennyMore$Reader", name := "word", desc := "(Ljava/lang/String;)Z" } : Jvm.MethodName) prog_7_method_6_code (3 : Nat) (Option.some Jvm.ClassFile.FieldType.boolean)) ∈ mm_G := mm_gi_3 (i := 6) rfl rfl
theorem gw_196 : (Jvm.Cond.code ({ cls := "PennyMore$Reader", name := "next", desc := "()I" } : Jvm.MethodName) prog_7_method_5_code (1 : Nat) (Option.some Jvm.ClassFile.FieldType.int)) ∈ mm_G := mm_gi_2 (i := 228) rfl rfl
theorem gw_197 : (Jvm.Cond.code ({ cls := "PennyMore$Reader", name := "readInto", desc := "(LPennyMore$Shop;)I" } : Jvm.MethodName) prog_7_method_4_code (3 : Nat) (Option.some Jvm.ClassFile.FieldType.int)) ∈ mm_G := mm_gi_2 (i := 219) rfl rfl
theorem gw_198 : (Jvm.Cond.code ({ cls := "PennyMore$Reader", name := "empty", desc := "()V" } : Jvm.MethodName) prog_7_method_3_code (1 : Nat) (Option.none : Option Jvm.ClassFile.FieldType)) ∈ mm_G := mm_gi_3 (i := 154) rfl rfl
theorem gw_199 : (Jvm.Cond.code ({ cls := "PennyMore$Reader", name := "add", desc := "(I)Z" } : Jvm.MethodName) prog_7_method_2_code (2 : Nat) (Option.some Jvm.ClassFile.FieldType.boolean)) ∈ mm_G := mm_gi_2 (i := 211) rfl rfl
theorem gw_200 : (Jvm.Cond.code ({ cls := "PennyMore$Reader", name := "<init>", desc := "()V" } : Jvm.MethodName) prog_7_method_1_code (1 : Nat) (Option.none : Option Jvm.ClassFile.FieldType)) ∈ mm_G := mm_gi_1 (i := 183) rfl rfl
theorem gw_201 : (Jvm.Cond.code ({ cls := "PennyMore$Plain", name := "waits", desc := "(I[I)I" } : Jvm.MethodName) prog_6_method_3_code (3 : Nat) (Option.some Jvm.ClassFile.FieldType.int)) ∈ mm_G := mm_gi_4 (i := 189) rfl rfl
theorem gw_202 : (Jvm.Cond.code ({ cls := "PennyMore$Plain", name := "does", desc := "(LPennyMore$Day;)I" } : Jvm.MethodName) prog_6_method_2_code (2 : Nat) (Option.some Jvm.ClassFile.FieldType.int)) ∈ mm_G := mm_gi_3 (i := 210) rfl rfl
theorem gw_203 : (Jvm.Cond.code ({ cls := "PennyMore$Plain", name := "<init>", desc := "(IIII)V" } : Jvm.MethodName) prog_6_method_1_code (5 : Nat) (Option.none : Option Jvm.ClassFile.FieldType)) ∈ mm_G := mm_gi_2 (i := 31) rfl rfl
theorem gw_204 : (Jvm.Cond.code ({ cls := "PennyMore$Late", name := "tells", desc := "(I[I)I" } : Jvm.MethodName) prog_5_method_3_code (3 : Nat) (Option.some Jvm.ClassFile.FieldType.int)) ∈ mm_G := mm_gi_4 (i := 221) rfl rfl
theorem gw_205 : (Jvm.Cond.code ({ cls := "PennyMore$Late", name := "does", desc := "(LPennyMore$Day;)I" } : Jvm.MethodName) prog_5_method_2_code (2 : Nat) (Option.some Jvm.ClassFile.FieldType.int)) ∈ mm_G := mm_gi_3 (i := 198) rfl rfl
theorem gw_206 : (Jvm.Cond.code ({ cls := "PennyMore$Late", name := "<init>", desc := "(IIII)V" } : Jvm.MethodName) prog_5_method_1_code (5 : Nat) (Option.none : Option Jvm.ClassFile.FieldType)) ∈ mm_G := mm_gi_2 (i := 109) rfl rfl
theorem gw_207 : (Jvm.Cond.code ({ cls := "PennyMore$Falling", name := "tells", desc := "(I[I)I" } : Jvm.MethodName) prog_4_method_3_code (3 : Nat) (Option.some Jvm.ClassFile.FieldType.int)) ∈ mm_G := mm_gi_4 (i := 212) rfl rfl
theorem gw_208 : (Jvm.Cond.code ({ cls := "PennyMore$Falling", name := "does", desc := "(LPennyMore$Day;)I" } : Jvm.MethodName) prog_4_method_2_code (2 : Nat) (Option.some Jvm.ClassFile.FieldType.int)) ∈ mm_G := mm_gi_3 (i := 193) rfl rfl
theorem gw_209 : (Jvm.Cond.code ({ cls := "PennyMore$Falling", name := "<init>", desc := "(IIII)V" } : Jvm.MethodName) prog_4_method_1_code (5 : Nat) (Option.none : Option Jvm.ClassFile.FieldType)) ∈ mm_G := mm_gi_2 (i := 87) rfl rfl
theorem gw_210 : (Jvm.Cond.code ({ cls := "PennyMore$Day", name := "gainedByAll", desc := "()I" } : Jvm.MethodName) prog_3_method_19_code (3 : Nat) (Option.some Jvm.ClassFile.FieldType.int)) ∈ mm_G := mm_gi_4 (i := 37) rfl rfl
theorem gw_211 : (Jvm.Cond.code ({ cls := "PennyMore$Day", name := "toEnd", desc := "()V" } : Jvm.MethodName) prog_3_method_18_code (2 : Nat) (Option.none : Option Jvm.ClassFile.FieldType)) ∈ mm_G := mm_gi_4 (i := 17) rfl rfl
theorem gw_212 : (Jvm.Cond.code ({ cls := "PennyMore$Day", name := "carryOut", desc := "(I)V" } : Jvm.MethodName) prog_3_method_17_code (3 : Nat) (Option.none : Option Jvm.ClassFile.FieldType)) ∈ mm_G := mm_gi_4 (i := 4) rfl rfl
theorem gw_213 : (Jvm.Cond.code ({ cls := "PennyMore$Day", name := "turn", desc := "()I" } : Jvm.MethodName) prog_3_method_16_code (3 : Nat) (Option.some Jvm.ClassFile.FieldType.int)) ∈ mm_G := mm_gi_3 (i := 238) rfl rfl
theorem gw_214 : (Jvm.Cond.code ({ cls := "PennyMore$Day", name := "turnComes", desc := "()Z" } : Jvm.MethodName) prog_3_method_15_code (1 : Nat) (Option.some Jvm.ClassFile.FieldType.boolean)) ∈ mm_G := mm_gi_3 (i := 234) rfl rfl
theorem gw_215 : (Jvm.Cond.code ({ cls := "PennyMore$Day", name := "weigh", desc := "(I)V" } : Jvm.MethodName) prog_3_method_14_code (2 : Nat) (Option.none : Option Jvm.ClassFile.FieldType)) ∈ mm_G := mm_gi_2 (i := 161) rfl rfl
theorem gw_216 : (Jvm.Cond.code ({ cls := "PennyMore$Day", name := "gainOfYes", desc := "()I" } : Jvm.MethodName) prog_3_method_13_code (1 : Nat) (Option.some Jvm.ClassFile.FieldType.int)) ∈ mm_G := mm_gi_3 (i := 214) rfl rfl
theorem gw_217 : (Jvm.Cond.code ({ cls := "PennyMore$Day", name := "friendStands", desc := "(I)Z" } : Jvm.MethodName) prog_3_method_12_code (2 : Nat) (Option.some Jvm.ClassFile.FieldType.boolean)) ∈ mm_G := mm_gi_2 (i := 165) rfl rfl
theorem gw_218 : (Jvm.Cond.code ({ cls := "PennyMore$Day", name := "mayGoAway", desc := "(I)Z" } : Jvm.MethodName) prog_3_method_11_code (2 : Nat) (Option.some Jvm.ClassFile.FieldType.boolean)) ∈ mm_G := mm_gi_3 (i := 202) rfl rfl
theorem gw_219 : (Jvm.Cond.code ({ cls := "PennyMore$Day", name := "putAhead", desc := "(I)V" } : Jvm.MethodName) prog_3_method_10_code (3 : Nat) (Option.none : Option Jvm.ClassFile.FieldType)) ∈ mm_G := mm_gi_3 (i := 182) rfl rfl
theorem gw_220 : (Jvm.Cond.code ({ cls := "PennyMore$Day", name := "leave", desc := "(I)V" } : Jvm.MethodName) prog_3_method_9_code (3 : Nat) (Option.none : Option Jvm.ClassFile.FieldType)) ∈ mm_G := mm_gi_3 (i := 186) rfl rfl
theorem gw_221 : (Jvm.Cond.code ({ cls := "PennyMore$Day", name := "stand", desc := "(I)V" } : Jvm.MethodName) prog_3_method_8_code (2 : Nat) (Option.none : Option Jvm.ClassFile.FieldType)) ∈ mm_G := mm_gi_2 (i := 142) rfl rfl
theorem gw_222 : (Jvm.Cond.code ({ cls := "PennyMore$Day", name := "placeOf", desc := "(I)I" } : Jvm.MethodName) prog_3_method_7_code (3 : Nat) (Option.some Jvm.ClassFile.FieldType.int)) ∈ mm_G := mm_gi_2 (i := 157) rfl rfl
theorem gw_223 : (Jvm.Cond.code ({ cls := "PennyMore$Day", name := "head", desc := "()I" } : Jvm.MethodName) prog_3_method_6_code (1 : Nat) (Option.some Jvm.ClassFile.FieldType.int)) ∈ mm_G := mm_gi_3 (i := 167) rfl rfl
theorem gw_224 : (Jvm.Cond.code ({ cls := "PennyMore$Day", name := "open", desc := "(LPennyMore$Shop;)V" } : Jvm.MethodName) prog_3_method_5_code (2 : Nat) (Option.none : Option Jvm.ClassFile.FieldType)) ∈ mm_G := mm_gi_3 (i := 158) rfl rfl
theorem gw_225 : (Jvm.Cond.code ({ cls := "PennyMore$Day", name := "welcome", desc := "(LPennyMore$Buyer;)V" } : Jvm.MethodName) prog_3_method_4_code (4 : Nat) (Option.none : Option Jvm.ClassFile.FieldType)) ∈ mm_G := mm_gi_2 (i := 138) rfl rfl
theorem gw_226 : (Jvm.Cond.code ({ cls := "PennyMore$Day", name := "knows", desc := "(I)Z" } : Jvm.MethodName) prog_3_method_3_code (2 : Nat) (Option.some Jvm.ClassFile.FieldType.boolean)) ∈ mm_G := mm_gi_2 (i := 150) rfl rfl
theorem gw_227 : (Jvm.Cond.code ({ cls := "PennyMore$Day", name := "copyOf", desc := "(LPennyMore$Day;)V" } : Jvm.MethodName) prog_3_method_2_code (3 : Nat) (Option.none : Option Jvm.ClassFile.FieldType)) ∈ mm_G := mm_gi_3 (i := 175) rfl rfl
theorem gw_228 : (Jvm.Cond.code ({ cls := "PennyMore$Day", name := "<init>", desc := "(LPennyMore$Shop;)V" } : Jvm.MethodName) prog_3_method_1_code (2 : Nat) (Option.none : Option Jvm.ClassFile.FieldType)) ∈ mm_G := mm_gi_1 (i := 87) rfl rfl
theorem gw_229 : (Jvm.Cond.code ({ cls := "PennyMore$Buyer", name := "tells", desc := "(I[I)I" } : Jvm.MethodName) prog_2_method_6_code (3 : Nat) (Option.some Jvm.ClassFile.FieldType.int)) ∈ mm_G := mm_gi_4 (i := 231) rfl rfl
theorem gw_230 : (Jvm.Cond.code ({ cls := "PennyMore$Buyer", name := "waits", desc := "(I[I)I" } : Jvm.MethodName) prog_2_method_5_code (3 : Nat) (Option.some Jvm.ClassFile.FieldType.int)) ∈ mm_G := mm_gi_4 (i := 204) rfl rfl
theorem gw_231 : (Jvm.Cond.code ({ cls := "PennyMore$Buyer", name := "bids", desc := "(I[I)I" } : Jvm.MethodName) prog_2_method_4_code (3 : Nat) (Option.some Jvm.ClassFile.FieldType.int)) ∈ mm_G := mm_gi_4 (i := 179) rfl rfl
theorem gw_232 : (Jvm.Cond.code ({ cls := "PennyMore$Buyer", name := "does", desc := "(LPennyMore$Day;)I" } : Jvm.MethodName) prog_2_method_3_code (2 : Nat) (Option.some Jvm.ClassFile.FieldType.int)) ∈ mm_G := mm_gi_3 (i := 225) rfl rfl
theorem gw_233 : (Jvm.Cond.code ({ cls := "PennyMore$Buyer", name := "note", desc := "([II)V" } : Jvm.MethodName) prog_2_method_2_code (2 : Nat) (Option.none : Option Jvm.ClassFile.FieldType)) ∈ mm_G := mm_gi_4 (i := 160) rfl rfl
theorem gw_234 : (Jvm.Cond.code ({ cls := "PennyMore$Buyer", name := "<init>", desc := "(IIII)V" } : Jvm.MethodName) prog_2_method_1_code (5 : Nat) (Option.none : Option Jvm.ClassFile.FieldType)) ∈ mm_G := mm_gi_2 (i := 34) rfl rfl
theorem gw_235 : (Jvm.Cond.code ({ cls := "PennyMore", name := "set", desc := "(II)I" } : Jvm.MethodName) prog_1_method_8_code (4 : Nat) (Option.some Jvm.ClassFile.FieldType.int)) ∈ mm_G := mm_gi_2 (i := 203) rfl rfl
theorem gw_236 : (Jvm.Cond.code ({ cls := "PennyMore", name := "back", desc := "(I)I" } : Jvm.MethodName) prog_1_method_7_code (2 : Nat) (Option.some Jvm.ClassFile.FieldType.int)) ∈ mm_G := mm_gi_2 (i := 198) rfl rfl
theorem gw_237 : (Jvm.Cond.code ({ cls := "PennyMore", name := "row", desc := "(III)I" } : Jvm.MethodName) prog_1_method_6_code (6 : Nat) (Option.some Jvm.ClassFile.FieldType.int)) ∈ mm_G := mm_gi_2 (i := 194) rfl rfl
theorem gw_238 : (Jvm.Cond.code ({ cls := "PennyMore", name := "friend", desc := "(II)I" } : Jvm.MethodName) prog_1_method_5_code (5 : Nat) (Option.some Jvm.ClassFile.FieldType.int)) ∈ mm_G := mm_gi_2 (i := 190) rfl rfl
theorem gw_239 : (Jvm.Cond.code ({ cls := "PennyMore", name := "gained", desc := "(I)I" } : Jvm.MethodName) prog_1_method_4_code (2 : Nat) (Option.some Jvm.ClassFile.FieldType.int)) ∈ mm_G := mm_gi_2 (i := 185) rfl rfl
theorem gw_240 : (Jvm.Cond.code ({ cls := "PennyMore", name := "of", desc := "(II)I" } : Jvm.MethodName) prog_1_method_3_code (4 : Nat) (Option.some Jvm.ClassFile.FieldType.int)) ∈ mm_G := mm_gi_2 (i := 146) rfl rfl
theorem gw_241 : (Jvm.Cond.code ({ cls := "PennyMore", name := "buyer", desc := "(III)I" } : Jvm.MethodName) prog_1_method_2_code (5 : Nat) (Option.some Jvm.ClassFile.FieldType.int)) ∈ mm_G := mm_gi_2 (i := 23) rfl rfl
theorem gw_242 : (Jvm.Cond.code ({ cls := "PennyMore", name := "<init>", desc := "()V" } : Jvm.MethodName) prog_1_method_1_code (3 : Nat) (Option.none : Option Jvm.ClassFile.FieldType)) ∈ mm_G := mm_gi_1 (i := 25) rfl rfl
theorem gw_243 : (Jvm.Cond.code ({ cls := "PennyMore$Waiting", name := "bids", desc := "(I[I)I" } : Jvm.MethodName) prog_12_method_3_code (3 : Nat) (Option.some Jvm.ClassFile.FieldType.int)) ∈ mm_G := mm_gi_4 (i := 156) rfl rfl
theorem gw_244 : (Jvm.Cond.code ({ cls := "PennyMore$Waiting", name := "does", desc := "(LPennyMore$Day;)I" } : Jvm.MethodName) prog_12_method_2_code (2 : Nat) (Option.some Jvm.ClassFile.FieldType.int)) ∈ mm_G := mm_gi_3 (i := 205) rfl rfl
theorem gw_245 : (Jvm.Cond.code ({ cls := "PennyMore$Waiting", name := "<init>", desc := "(IIII)V" } : Jvm.MethodName) prog_12_method_1_code (5 : Nat) (Option.none : Option Jvm.ClassFile.FieldType)) ∈ mm_G := mm_gi_2 (i := 76) rfl rfl
theorem gw_246 : (Jvm.Cond.code ({ cls := "PennyMore$Told", name := "bids", desc := "(I[I)I" } : Jvm.MethodName) prog_11_method_4_code (3 : Nat) (Option.some Jvm.ClassFile.FieldType.int)) ∈ mm_G := mm_gi_4 (i := 173) rfl rfl
theorem gw_247 : (Jvm.Cond.code ({ cls := "PennyMore$Told", name := "waits", desc := "(I[I)I" } : Jvm.MethodName) prog_11_method_3_code (3 : Nat) (Option.some Jvm.ClassFile.FieldType.int)) ∈ mm_G := mm_gi_4 (i := 199) rfl rfl
theorem gw_248 : (Jvm.Cond.code ({ cls := "PennyMore$Told", name := "does", desc := "(LPennyMore$Day;)I" } : Jvm.MethodName) prog_11_method_2_code (4 : Nat) (Option.some Jvm.ClassFile.FieldType.int)) ∈ mm_G := mm_gi_3 (i := 221) rfl rfl
theorem gw_249 : (Jvm.Cond.code ({ cls := "PennyMore$Told", name := "<init>", desc := "(IIII)V" } : Jvm.MethodName) prog_11_method_1_code (5 : Nat) (Option.none : Option Jvm.ClassFile.FieldType)) ∈ mm_G := mm_gi_2 (i := 120) rfl rfl
theorem gw_250 : (Jvm.Cond.code ({ cls := "PennyMore$Tape", name := "narrowed", desc := "(J)J" } : Jvm.MethodName) prog_10_method_6_code (3 : Nat) (Option.some Jvm.ClassFile.FieldType.long)) ∈ mm_G := mm_gi_5 (i := 27) rfl rfl
theorem gw_251 : (Jvm.Cond.code ({ cls := "PennyMore$Tape", name := "hasStretch", desc := "(II)Z" } : Jvm.MethodName) prog_10_method_5_code (3 : Nat) (Option.some Jvm.ClassFile.FieldType.boolean)) ∈ mm_G := mm_gi_5 (i := 39) rfl rfl
theorem gw_252 : (Jvm.Cond.code ({ cls := "PennyMore$Tape", name := "hasPlace", desc := "(I)Z" } : Jvm.MethodName) prog_10_method_4_code (2 : Nat) (Option.some Jvm.ClassFile.FieldType.boolean)) ∈ mm_G := mm_gi_5 (i := 23) rfl rfl
theorem gw_253 : (Jvm.Cond.code ({ cls := "PennyMore$Tape", name := "holdsNothing", desc := "()Z" } : Jvm.MethodName) prog_10_method_3_code (1 : Nat) (Option.some Jvm.ClassFile.FieldType.boolean)) ∈ mm_G := mm_gi_4 (i := 136) rfl rfl
theorem gw_254 : (Jvm.Cond.code ({ cls := "PennyMore$Tape", name := "become", desc := "(II)V" } : Jvm.MethodName) prog_10_method_2_code (4 : Nat) (Option.none : Option Jvm.ClassFile.FieldType)) ∈ mm_G := mm_gi_5 (i := 15) rfl rfl
theorem gw_255 : (Jvm.Cond.code ({ cls := "PennyMore$Tape", name := "<init>", desc := "()V" } : Jvm.MethodName) prog_10_method_1_code (1 : Nat) (Option.none : Option Jvm.ClassFile.FieldType)) ∈ mm_G := mm_gi_1 (i := 204) rfl rfl
theorem gw_256 : (Jvm.Cond.code ({ cls := "PennyMore$Sure", name := "waits", desc := "(I[I)I" } : Jvm.MethodName) prog_9_method_4_code (3 : Nat) (Option.some Jvm.ClassFile.FieldType.int)) ∈ mm_G := mm_gi_4 (i := 195) rfl rfl
theorem gw_257 : (Jvm.Cond.code ({ cls := "PennyMore$Sure", name := "bids", desc := "(I[I)I" } : Jvm.MethodName) prog_9_method_3_code (3 : Nat) (Option.some Jvm.ClassFile.FieldType.int)) ∈ mm_G := mm_gi_4 (i := 165) rfl rfl
theorem gw_258 : (Jvm.Cond.code ({ cls := "PennyMore$Sure", name := "does", desc := "(LPennyMore$Day;)I" } : Jvm.MethodName) prog_9_method_2_code (2 : Nat) (Option.some Jvm.ClassFile.FieldType.int)) ∈ mm_G := mm_gi_3 (i := 217) rfl rfl
theorem gw_259 : (Jvm.Cond.code ({ cls := "PennyMore$Sure", name := "<init>", desc := "(IIII)V" } : Jvm.MethodName) prog_9_method_1_code (5 : Nat) (Option.none : Option Jvm.ClassFile.FieldType)) ∈ mm_G := mm_gi_2 (i := 98) rfl rfl
theorem gw_260 : (Jvm.Cond.code ({ cls := "PennyMore$Shop", name := "passes", desc := "(I[I)Z" } : Jvm.MethodName) prog_8_method_8_code (5 : Nat) (Option.some Jvm.ClassFile.FieldType.boolean)) ∈ mm_G := mm_gi_2 (i := 177) rfl rfl
theorem gw_261 : (Jvm.Cond.code ({ cls := "PennyMore$Shop", name := "holds", desc := "(II[I)Z" } : Jvm.MethodName) prog_8_method_7_code (6 : Nat) (Option.some Jvm.ClassFile.FieldType.boolean)) ∈ mm_G := mm_gi_2 (i := 174) rfl rfl
theorem gw_262 : (Jvm.Cond.code ({ cls := "PennyMore$Shop", name := "sumOf", desc := "(I[I)I" } : Jvm.MethodName) prog_8_method_6_code (6 : Nat) (Option.some Jvm.ClassFile.FieldType.int)) ∈ mm_G := mm_gi_2 (i := 170) rfl rfl
theorem gw_263 : (Jvm.Cond.code ({ cls := "PennyMore$Shop", name := "putClause", desc := "(II)V" } : Jvm.MethodName) prog_8_method_5_code (3 : Nat) (Option.none : Option Jvm.ClassFile.FieldType)) ∈ mm_G := mm_gi_3 (i := 148) rfl rfl
theorem gw_264 : (Jvm.Cond.code ({ cls := "PennyMore$Shop", name := "codeOf", desc := "(III)I" } : Jvm.MethodName) prog_8_method_4_code (3 : Nat) (Option.some Jvm.ClassFile.FieldType.int)) ∈ mm_G := mm_gi_3 (i := 139) rfl rfl
theorem gw_265 : (Jvm.Cond.code ({ cls := "PennyMore$Shop", name := "putCode", desc := "(I)V" } : Jvm.MethodName) prog_8_method_3_code (2 : Nat) (Option.none : Option Jvm.ClassFile.FieldType)) ∈ mm_G := mm_gi_3 (i := 143) rfl rfl
theorem gw_266 : (Jvm.Cond.code ({ cls := "PennyMore$Shop", name := "clear", desc := "()V" } : Jvm.MethodName) prog_8_method_2_code (1 : Nat) (Option.none : Option Jvm.ClassFile.FieldType)) ∈ mm_G := mm_gi_1 (i := 38) rfl rfl
theorem gw_267 : (Jvm.Cond.code ({ cls := "PennyMore$Shop", name := "<init>", desc := "()V" } : Jvm.MethodName) prog_8_method_1_code (1 : Nat) (Option.none : Option Jvm.ClassFile.FieldType)) ∈ mm_G := mm_gi_1 (i := 33) rfl rfl
theorem gw_268 : (Jvm.Cond.code ({ cls := "PennyMore$Reader", name := "number", desc := "()I" } : Jvm.MethodName) prog_7_method_13_code (3 : Nat) (Option.some Jvm.ClassFile.FieldType.int)) ∈ mm_G := mm_gi_3 (i := 58) rfl rfl
theorem gw_269 : (Jvm.Cond.code ({ cls := "PennyMore$Reader", name := "test", desc := "()Z" } : Jvm.MethodName) prog_7_method_12_code (4 : Nat) (Option.some Jvm.ClassFile.FieldType.boolean)) ∈ mm_G := mm_gi_3 (i := 75) rfl rfl
theorem gw_270 : (Jvm.Cond.code ({ cls := "PennyMore$Reader", name := "factor", desc := "(I)Z" } : Jvm.MethodName) prog_7_method_11_code (3 : Nat) (Option.some Jvm.ClassFile.FieldType.boolean)) ∈ mm_G := mm_gi_3 (i := 71) rfl rfl
theorem gw_271 : (Jvm.Cond.code ({ cls := "PennyMore$Reader", name := "both", desc := "(I)Z" } : Jvm.MethodName) prog_7_method_10_code (2 : Nat) (Option.some Jvm.ClassFile.FieldType.boolean)) ∈ mm_G := mm_gi_3 (i := 67) rfl rfl
theorem gw_272 : (Jvm.Cond.code ({ cls := "PennyMore$Reader", name := "either", desc := "(I)Z" } : Jvm.MethodName) prog_7_method_9_code (2 : Nat) (Option.some Jvm.ClassFile.FieldType.boolean)) ∈ mm_G := mm_gi_3 (i := 63) rfl rfl
theorem gw_273 : (Jvm.Cond.code ({ cls := "PennyMore$Reader", name := "clause", desc := "()Z" } : Jvm.MethodName) prog_7_method_8_code (4 : Nat) (Option.some Jvm.ClassFile.FieldType.boolean)) ∈ mm_G := mm_gi_2 (i := 224) rfl rfl
theorem gw_274 : (Jvm.Cond.code ({ cls := "PennyMore$Reader", name := "wordOf", desc := "(I)Ljava/lang/String;" } : Jvm.MethodName) prog_7_method_7_code (1 : Nat) (Option.some (Jvm.ClassFile.FieldType.object "java/lang/String"))) ∈ mm_G := mm_gi_2 (i := 231) rfl rfl
theorem gw_275 : (Jvm.Cond.code ({ cls := "PennyMore", name := "findBestLineup", desc := "(I)I" } : Jvm.MethodName) prog_1_method_48_code (6 : Nat) (Option.some Jvm.ClassFile.FieldType.int)) ∈ mm_G := mm_gi_4 (i := 45) rfl rfl
theorem gw_276 : (Jvm.Cond.code ({ cls := "PennyMore", name := "takersAt", desc := "(I)I" } : Jvm.MethodName) prog_1_method_47_code (4 : Nat) (Option.some Jvm.ClassFile.FieldType.int)) ∈ mm_G := mm_gi_4 (i := 94) rfl rfl
theorem gw_277 : (Jvm.Cond.code ({ cls := "PennyMore", name := "bothLikeSwap", desc := "(I)Z" } : Jvm.MethodName) prog_1_method_46_code (6 : Nat) (Option.some Jvm.ClassFile.FieldType.boolean)) ∈ mm_G := mm_gi_4 (i := 70) rfl rfl
theorem gw_278 : (Jvm.Cond.code ({ cls := "PennyMore", name := "gainByFirst", desc := "(III)I" } : Jvm.MethodName) prog_1_method_45_code (4 : Nat) (Option.some Jvm.ClassFile.FieldType.int)) ∈ mm_G := mm_gi_4 (i := 32) rfl rfl
theorem gw_279 : (Jvm.Cond.code ({ cls := "PennyMore", name := "nobodyRefuses", desc := "(I)Z" } : Jvm.MethodName) prog_1_method_44_code (3 : Nat) (Option.some Jvm.ClassFile.FieldType.boolean)) ∈ mm_G := mm_gi_4 (i := 86) rfl rfl
theorem gw_280 : (Jvm.Cond.code ({ cls := "PennyMore", name := "whoGetsLoaves", desc := "()I" } : Jvm.MethodName) prog_1_method_43_code (4 : Nat) (Option.some Jvm.ClassFile.FieldType.int)) ∈ mm_G := mm_gi_4 (i := 23) rfl rfl
theorem gw_281 : (Jvm.Cond.code ({ cls := "PennyMore", name := "runTrial", desc := "()V" } : Jvm.MethodName) prog_1_method_42_code (1 : Nat) (Option.none : Option Jvm.ClassFile.FieldType)) ∈ mm_G := mm_gi_4 (i := 13) rfl rfl
theorem gw_282 : (Jvm.Cond.code ({ cls := "PennyMore", name := "isOneOf", desc := "(LPennyMore$Buyer;I)Z" } : Jvm.MethodName) prog_1_method_41_code (2 : Nat) (Option.some Jvm.ClassFile.FieldType.boolean)) ∈ mm_G := mm_gi_5 (i := 3) rfl rfl
theorem gw_283 : (Jvm.Cond.code ({ cls := "PennyMore", name := "newBuyer", desc := "(IIII)LPennyMore$Buyer;" } : Jvm.MethodName) prog_1_method_40_code (4 : Nat) (Option.some (Jvm.ClassFile.FieldType.object "PennyMore$Buyer"))) ∈ mm_G := mm_gi_2 (i := 26) rfl rfl
theorem gw_284 : (Jvm.Cond.code ({ cls := "PennyMore", name := "rowDigits", desc := "(I)I" } : Jvm.MethodName) prog_1_method_39_code (3 : Nat) (Option.some Jvm.ClassFile.FieldType.int)) ∈ mm_G := mm_gi_2 (i := 181) rfl rfl
theorem gw_285 : (Jvm.Cond.code ({ cls := "PennyMore", name := "isTape", desc := "(I)Z" } : Jvm.MethodName) prog_1_method_38_code (1 : Nat) (Option.some Jvm.ClassFile.FieldType.boolean)) ∈ mm_G := mm_gi_4 (i := 132) rfl rfl
theorem gw_286 : (Jvm.Cond.code ({ cls := "PennyMore", name := "orAbsent", desc := "(I)I" } : Jvm.MethodName) prog_1_method_37_code (1 : Nat) (Option.some Jvm.ClassFile.FieldType.int)) ∈ mm_G := mm_gi_2 (i := 153) rfl rfl
theorem gw_287 : (Jvm.Cond.code ({ cls := "PennyMore", name := "shift", desc := "(IIIII)I" } : Jvm.MethodName) prog_1_method_36_code (8 : Nat) (Option.some Jvm.ClassFile.FieldType.int)) ∈ mm_G := mm_gi_5 (i := 35) rfl rfl
theorem gw_288 : (Jvm.Cond.code ({ cls := "PennyMore", name := "read", desc := "(II)J" } : Jvm.MethodName) prog_1_method_35_code (3 : Nat) (Option.some Jvm.ClassFile.FieldType.long)) ∈ mm_G := mm_gi_5 (i := 31) rfl rfl
theorem gw_289 : (Jvm.Cond.code ({ cls := "PennyMore", name := "item", desc := "(IIJ)I" } : Jvm.MethodName) prog_1_method_34_code (6 : Nat) (Option.some Jvm.ClassFile.FieldType.int)) ∈ mm_G := mm_gi_5 (i := 19) rfl rfl
theorem gw_290 : (Jvm.Cond.code ({ cls := "PennyMore", name := "tape", desc := "(III)I" } : Jvm.MethodName) prog_1_method_33_code (4 : Nat) (Option.some Jvm.ClassFile.FieldType.int)) ∈ mm_G := mm_gi_5 (i := 11) rfl rfl
theorem gw_291 : (Jvm.Cond.code ({ cls := "PennyMore", name := "count", desc := "(I)I" } : Jvm.MethodName) prog_1_method_32_code (2 : Nat) (Option.some Jvm.ClassFile.FieldType.int)) ∈ mm_G := mm_gi_5 (i := 7) rfl rfl
theorem gw_292 : (Jvm.Cond.code ({ cls := "PennyMore", name := "taken", desc := "(II)I" } : Jvm.MethodName) prog_1_method_31_code (4 : Nat) (Option.some Jvm.ClassFile.FieldType.int)) ∈ mm_G := mm_gi_5 (i := 0) rfl rfl
theorem gw_293 : (Jvm.Cond.code ({ cls := "PennyMore", name := "trace", desc := "(I)I" } : Jvm.MethodName) prog_1_method_30_code (2 : Nat) (Option.some Jvm.ClassFile.FieldType.int)) ∈ mm_G := mm_gi_4 (i := 236) rfl rfl
theorem gw_294 : (Jvm.Cond.code ({ cls := "PennyMore", name := "act", desc := "(III)I" } : Jvm.MethodName) prog_1_method_29_code (4 : Nat) (Option.some Jvm.ClassFile.FieldType.int)) ∈ mm_G := mm_gi_4 (i := 148) rfl rfl
theorem gw_295 : (Jvm.Cond.code ({ cls := "PennyMore", name := "undo", desc := "()I" } : Jvm.MethodName) prog_1_method_28_code (1 : Nat) (Option.some Jvm.ClassFile.FieldType.int)) ∈ mm_G := mm_gi_4 (i := 144) rfl rfl
theorem gw_296 : (Jvm.Cond.code ({ cls := "PennyMore", name := "image", desc := "()I" } : Jvm.MethodName) prog_1_method_27_code (1 : Nat) (Option.some Jvm.ClassFile.FieldType.int)) ∈ mm_G := mm_gi_4 (i := 140) rfl rfl
theorem gw_297 : (Jvm.Cond.code ({ cls := "PennyMore", name := "judge", desc := "(II)I" } : Jvm.MethodName) prog_1_method_26_code (5 : Nat) (Option.some Jvm.ClassFile.FieldType.int)) ∈ mm_G := mm_gi_4 (i := 129) rfl rfl
theorem gw_298 : (Jvm.Cond.code ({ cls := "PennyMore", name := "off", desc := "()I" } : Jvm.MethodName) prog_1_method_25_code (2 : Nat) (Option.some Jvm.ClassFile.FieldType.int)) ∈ mm_G := mm_gi_4 (i := 125) rfl rfl
theorem gw_299 : (Jvm.Cond.code ({ cls := "PennyMore", name := "film", desc := "(I)I" } : Jvm.MethodName) prog_1_method_24_code (2 : Nat) (Option.some Jvm.ClassFile.FieldType.int)) ∈ mm_G := mm_gi_4 (i := 121) rfl rfl
theorem gw_300 : (Jvm.Cond.code ({ cls := "PennyMore", name := "sure", desc := "(II)J" } : Jvm.MethodName) prog_1_method_23_code (12 : Nat) (Option.some Jvm.ClassFile.FieldType.long)) ∈ mm_G := mm_gi_4 (i := 109) rfl rfl
theorem gw_301 : (Jvm.Cond.code ({ cls := "PennyMore", name := "slips", desc := "(I)I" } : Jvm.MethodName) prog_1_method_22_code (3 : Nat) (Option.some Jvm.ClassFile.FieldType.int)) ∈ mm_G := mm_gi_4 (i := 105) rfl rfl
theorem gw_302 : (Jvm.Cond.code ({ cls := "PennyMore", name := "aunt", desc := "(I)I" } : Jvm.MethodName) prog_1_method_21_code (6 : Nat) (Option.some Jvm.ClassFile.FieldType.int)) ∈ mm_G := mm_gi_4 (i := 99) rfl rfl
theorem gw_303 : (Jvm.Cond.code ({ cls := "PennyMore", name := "onePrice", desc := "(I)I" } : Jvm.MethodName) prog_1_method_20_code (6 : Nat) (Option.some Jvm.ClassFile.FieldType.int)) ∈ mm_G := mm_gi_4 (i := 90) rfl rfl
theorem gw_304 : (Jvm.Cond.code ({ cls := "PennyMore", name := "fee", desc := "()I" } : Jvm.MethodName) prog_1_method_19_code (2 : Nat) (Option.some Jvm.ClassFile.FieldType.int)) ∈ mm_G := mm_gi_4 (i := 82) rfl rfl
theorem gw_305 : (Jvm.Cond.code ({ cls := "PennyMore", name := "lot", desc := "(I)J" } : Jvm.MethodName) prog_1_method_18_code (8 : Nat) (Option.some Jvm.ClassFile.FieldType.long)) ∈ mm_G := mm_gi_4 (i := 74) rfl rfl
theorem gw_306 : (Jvm.Cond.code ({ cls := "PennyMore", name := "letBy", desc := "(I)I" } : Jvm.MethodName) prog_1_method_17_code (5 : Nat) (Option.some Jvm.ClassFile.FieldType.int)) ∈ mm_G := mm_gi_4 (i := 66) rfl rfl
theorem gw_307 : (Jvm.Cond.code ({ cls := "PennyMore", name := "order", desc := "(II)I" } : Jvm.MethodName) prog_1_method_16_code (4 : Nat) (Option.some Jvm.ClassFile.FieldType.int)) ∈ mm_G := mm_gi_4 (i := 41) rfl rfl
theorem gw_308 : (Jvm.Cond.code ({ cls := "PennyMore", name := "first", desc := "(I)I" } : Jvm.MethodName) prog_1_method_15_code (7 : Nat) (Option.some Jvm.ClassFile.FieldType.int)) ∈ mm_G := mm_gi_4 (i := 27) rfl rfl
theorem gw_309 : (Jvm.Cond.code ({ cls := "PennyMore", name := "run", desc := "(I)I" } : Jvm.MethodName) prog_1_method_14_code (2 : Nat) (Option.some Jvm.ClassFile.FieldType.int)) ∈ mm_G := mm_gi_4 (i := 9) rfl rfl
theorem gw_310 : (Jvm.Cond.code ({ cls := "PennyMore", name := "go", desc := "()I" } : Jvm.MethodName) prog_1_method_13_code (1 : Nat) (Option.some Jvm.ClassFile.FieldType.int)) ∈ mm_G := mm_gi_3 (i := 230) rfl rfl
theorem gw_311 : (Jvm.Cond.code ({ cls := "PennyMore", name := "would", desc := "(I)I" } : Jvm.MethodName) prog_1_method_12_code (2 : Nat) (Option.some Jvm.ClassFile.FieldType.int)) ∈ mm_G := mm_gi_3 (i := 171) rfl rfl
theorem gw_312 : (Jvm.Cond.code ({ cls := "PennyMore", name := "told", desc := "(I)I" } : Jvm.MethodName) prog_1_method_11_code (2 : Nat) (Option.some Jvm.ClassFile.FieldType.int)) ∈ mm_G := mm_gi_3 (i := 163) rfl rfl
theorem gw_313 : (Jvm.Cond.code ({ cls := "PennyMore", name := "shop", desc := "()I" } : Jvm.MethodName) prog_1_method_10_code (4 : Nat) (Option.some Jvm.ClassFile.FieldType.int)) ∈ mm_G := mm_gi_2 (i := 215) rfl rfl
theorem gw_314 : (Jvm.Cond.code ({ cls := "PennyMore", name := "feed", desc := "(I)I" } : Jvm.MethodName) prog_1_method_9_code (2 : Nat) (Option.some Jvm.ClassFile.FieldType.int)) ∈ mm_G := mm_gi_2 (i := 207) rfl rfl
theorem gw_315 : (Jvm.Cond.code ({ cls := "PennyMoreModel", name := "told", desc := "(I)I" } : Jvm.MethodName) prog_14_method_34_code (2 : Nat) (Option.some Jvm.ClassFile.FieldType.int)) ∈ mm_G := mm_gi_6 (i := 158) rfl rfl
theorem gw_316 : (Jvm.Cond.code ({ cls := "PennyMoreModel", name := "lawOf", desc := "(I)I" } : Jvm.MethodName) prog_14_method_33_code (4 : Nat) (Option.some Jvm.ClassFile.FieldType.int)) ∈ mm_G := mm_gi_6 (i := 162) rfl rfl
theorem gw_317 : (Jvm.Cond.code ({ cls := "PennyMoreModel", name := "costOf", desc := "(I)I" } : Jvm.MethodName) prog_14_method_32_code (2 : Nat) (Option.some Jvm.ClassFile.FieldType.int)) ∈ mm_G := mm_gi_6 (i := 74) rfl rfl
theorem gw_318 : (Jvm.Cond.code ({ cls := "PennyMoreModel", name := "valueOf", desc := "(I)I" } : Jvm.MethodName) prog_14_method_31_code (2 : Nat) (Option.some Jvm.ClassFile.FieldType.int)) ∈ mm_G := mm_gi_6 (i := 58) rfl rfl
theorem gw_319 : (Jvm.Cond.code ({ cls := "PennyMoreModel", name := "sumOf", desc := "(II)I" } : Jvm.MethodName) prog_14_method_30_code (5 : Nat) (Option.some Jvm.ClassFile.FieldType.int)) ∈ mm_G := mm_gi_6 (i := 62) rfl rfl
theorem gw_320 : (Jvm.Cond.code ({ cls := "PennyMoreModel", name := "doesHold", desc := "(II)Z" } : Jvm.MethodName) prog_14_method_29_code (8 : Nat) (Option.some Jvm.ClassFile.FieldType.boolean)) ∈ mm_G := mm_gi_6 (i := 66) rfl rfl
theorem gw_321 : (Jvm.Cond.code ({ cls := "PennyMoreModel", name := "testOf", desc := "(II)I" } : Jvm.MethodName) prog_14_method_28_code (3 : Nat) (Option.some Jvm.ClassFile.FieldType.int)) ∈ mm_G := mm_gi_6 (i := 70) rfl rfl
theorem gw_322 : (Jvm.Cond.code ({ cls := "PennyMoreModel", name := "shop", desc := "()I" } : Jvm.MethodName) prog_14_method_27_code (3 : Nat) (Option.some Jvm.ClassFile.FieldType.int)) ∈ mm_G := mm_gi_6 (i := 103) rfl rfl
theorem gw_323 : (Jvm.Cond.code ({ cls := "PennyMoreModel", name := "shopRead", desc := "()I" } : Jvm.MethodName) prog_14_method_26_code (1 : Nat) (Option.some Jvm.ClassFile.FieldType.int)) ∈ mm_G := mm_gi_6 (i := 107) rfl rfl
theorem gw_324 : (Jvm.Cond.code ({ cls := "PennyMoreModel", name := "clauseRead", desc := "()Z" } : Jvm.MethodName) prog_14_method_25_code (4 : Nat) (Option.some Jvm.ClassFile.FieldType.boolean)) ∈ mm_G := mm_gi_6 (i := 111) rfl rfl
theorem gw_325 : (Jvm.Cond.code ({ cls := "PennyMoreModel", name := "eRead", desc := "()Z" } : Jvm.MethodName) prog_14_method_24_code (3 : Nat) (Option.some Jvm.ClassFile.FieldType.boolean)) ∈ mm_G := mm_gi_6 (i := 134) rfl rfl
theorem gw_326 : (Jvm.Cond.code ({ cls := "PennyMoreModel", name := "opens", desc := "(I)Z" } : Jvm.MethodName) prog_14_method_23_code (2 : Nat) (Option.some Jvm.ClassFile.FieldType.boolean)) ∈ mm_G := mm_gi_6 (i := 138) rfl rfl
theorem gw_327 : (Jvm.Cond.code ({ cls := "PennyMoreModel", name := "unwinds", desc := "(I)V" } : Jvm.MethodName) prog_14_method_22_code (2 : Nat) (Option.none : Option Jvm.ClassFile.FieldType)) ∈ mm_G := mm_gi_6 (i := 154) rfl rfl
theorem gw_328 : (Jvm.Cond.code ({ cls := "PennyMoreModel", name := "noMoreNots", desc := "()V" } : Jvm.MethodName) prog_14_method_21_code (1 : Nat) (Option.none : Option Jvm.ClassFile.FieldType)) ∈ mm_G := mm_gi_6 (i := 150) rfl rfl
theorem gw_329 : (Jvm.Cond.code ({ cls := "PennyMoreModel", name := "testRead", desc := "()Z" } : Jvm.MethodName) prog_14_method_20_code (4 : Nat) (Option.some Jvm.ClassFile.FieldType.boolean)) ∈ mm_G := mm_gi_6 (i := 142) rfl rfl
theorem gw_330 : (Jvm.Cond.code ({ cls := "PennyMoreModel", name := "codes", desc := "(I)V" } : Jvm.MethodName) prog_14_method_19_code (2 : Nat) (Option.none : Option Jvm.ClassFile.FieldType)) ∈ mm_G := mm_gi_6 (i := 146) rfl rfl
theorem gw_331 : (Jvm.Cond.code ({ cls := "PennyMoreModel", name := "wordRead", desc := "()I" } : Jvm.MethodName) prog_14_method_18_code (3 : Nat) (Option.some Jvm.ClassFile.FieldType.int)) ∈ mm_G := mm_gi_6 (i := 115) rfl rfl
theorem gw_332 : (Jvm.Cond.code ({ cls := "PennyMoreModel", name := "numberRead", desc := "()I" } : Jvm.MethodName) prog_14_method_17_code (2 : Nat) (Option.some Jvm.ClassFile.FieldType.int)) ∈ mm_G := mm_gi_6 (i := 127) rfl rfl
theorem gw_333 : (Jvm.Cond.code ({ cls := "PennyMoreModel", name := "goesBy", desc := "(I)Z" } : Jvm.MethodName) prog_14_method_16_code (2 : Nat) (Option.some Jvm.ClassFile.FieldType.boolean)) ∈ mm_G := mm_gi_6 (i := 123) rfl rfl
theorem gw_334 : (Jvm.Cond.code ({ cls := "PennyMoreModel", name := "isFigure", desc := "(I)Z" } : Jvm.MethodName) prog_14_method_15_code (1 : Nat) (Option.some Jvm.ClassFile.FieldType.boolean)) ∈ mm_G := mm_gi_6 (i := 130) rfl rfl
theorem gw_335 : (Jvm.Cond.code ({ cls := "PennyMoreModel", name := "sign", desc := "()I" } : Jvm.MethodName) prog_14_method_14_code (1 : Nat) (Option.some Jvm.ClassFile.FieldType.int)) ∈ mm_G := mm_gi_6 (i := 119) rfl rfl
theorem gw_336 : (Jvm.Cond.code ({ cls := "PennyMoreModel", name := "feed", desc := "(I)I" } : Jvm.MethodName) prog_14_method_13_code (2 : Nat) (Option.some Jvm.ClassFile.FieldType.int)) ∈ mm_G := mm_gi_6 (i := 99) rfl rfl
theorem gw_337 : (Jvm.Cond.code ({ cls := "PennyMoreModel", name := "set", desc := "(II)I" } : Jvm.MethodName) prog_14_method_12_code (4 : Nat) (Option.some Jvm.ClassFile.FieldType.int)) ∈ mm_G := mm_gi_6 (i := 95) rfl rfl
theorem gw_338 : (Jvm.Cond.code ({ cls := "PennyMoreModel", name := "back", desc := "(I)I" } : Jvm.MethodName) prog_14_method_11_code (2 : Nat) (Option.some Jvm.ClassFile.FieldType.int)) ∈ mm_G := mm_gi_6 (i := 91) rfl rfl
theorem gw_339 : (Jvm.Cond.code ({ cls := "PennyMoreModel", name := "row", desc := "(III)I" } : Jvm.MethodName) prog_14_method_10_code (5 : Nat) (Option.some Jvm.ClassFile.FieldType.int)) ∈ mm_G := mm_gi_6 (i := 87) rfl rfl
theorem gw_340 : (Jvm.Cond.code ({ cls := "PennyMoreModel", name := "friend", desc := "(II)I" } : Jvm.MethodName) prog_14_method_9_code (4 : Nat) (Option.some Jvm.ClassFile.FieldType.int)) ∈ mm_G := mm_gi_6 (i := 83) rfl rfl
theorem gw_341 : (Jvm.Cond.code ({ cls := "PennyMoreModel", name := "gained", desc := "(I)I" } : Jvm.MethodName) prog_14_method_8_code (2 : Nat) (Option.some Jvm.ClassFile.FieldType.int)) ∈ mm_G := mm_gi_6 (i := 78) rfl rfl
theorem gw_342 : (Jvm.Cond.code ({ cls := "PennyMoreModel", name := "of", desc := "(II)I" } : Jvm.MethodName) prog_14_method_7_code (3 : Nat) (Option.some Jvm.ClassFile.FieldType.int)) ∈ mm_G := mm_gi_6 (i := 46) rfl rfl
theorem gw_343 : (Jvm.Cond.code ({ cls := "PennyMoreModel", name := "buyer", desc := "(III)I" } : Jvm.MethodName) prog_14_method_6_code (5 : Nat) (Option.some Jvm.ClassFile.FieldType.int)) ∈ mm_G := mm_gi_6 (i := 39) rfl rfl
theorem gw_344 : (Jvm.Cond.code ({ cls := "PennyMoreModel", name := "placeOf", desc := "(I)I" } : Jvm.MethodName) prog_14_method_5_code (3 : Nat) (Option.some Jvm.ClassFile.FieldType.int)) ∈ mm_G := mm_gi_6 (i := 54) rfl rfl
theorem gw_345 : (Jvm.Cond.code ({ cls := "PennyMoreModel", name := "isBuyer", desc := "(I)Z" } : Jvm.MethodName) prog_14_method_4_code (2 : Nat) (Option.some Jvm.ClassFile.FieldType.boolean)) ∈ mm_G := mm_gi_6 (i := 50) rfl rfl
theorem gw_346 : (Jvm.Cond.code ({ cls := "PennyMoreModel", name := "in", desc := "(III)Z" } : Jvm.MethodName) prog_14_method_3_code (3 : Nat) (Option.some Jvm.ClassFile.FieldType.boolean)) ∈ mm_G := mm_gi_6 (i := 42) rfl rfl
theorem gw_347 : (Jvm.Cond.code ({ cls := "PennyMoreModel", name := "<init>", desc := "()V" } : Jvm.MethodName) prog_14_method_1_code (1 : Nat) (Option.none : Option Jvm.ClassFile.FieldType)) ∈ mm_G := mm_gi_5 (i := 44) rfl rfl
theorem gw_348 : (Jvm.Cond.code ({ cls := "PennyMore", name := "lowestTerms", desc := "(JJI)J" } : Jvm.MethodName) prog_1_method_55_code (12 : Nat) (Option.some Jvm.ClassFile.FieldType.long)) ∈ mm_G := mm_gi_4 (i := 78) rfl rfl
theorem gw_349 : (Jvm.Cond.code ({ cls := "PennyMore", name := "whoSaysYes", desc := "(I)I" } : Jvm.MethodName) prog_1_method_54_code (7 : Nat) (Option.some Jvm.ClassFile.FieldType.int)) ∈ mm_G := mm_gi_4 (i := 117) rfl rfl
