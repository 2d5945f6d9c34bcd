theorem gw_1050 : (Jvm.Cond.selects "PennyMore" ({ cls := "PennyMore", name := "taken", desc := "(II)I" } : Jvm.MethodName) ({ cls := "PennyMore", name := "taken", desc := "(II)I" } : Jvm.MethodName)) ∈ mm_G := mm_gi_4 (i := 239) rfl rfl
theorem gw_1051 : (Jvm.Cond.methodLink "PennyMoreLaw" (138 : Nat) ({ cls := "PennyMoreModel", name := "taken", desc := "(II)I" } : Jvm.MethodName)) ∈ mm_G := mm_gi_7 (i := 104) rfl rfl
theorem gw_1052 : (Jvm.Cond.instanceMethod ({ cls := "PennyMoreModel", name := "taken", desc := "(II)I" } : Jvm.MethodName)) ∈ mm_G := mm_gi_7 (i := 105) rfl rfl
theorem gw_1053 : (Jvm.Cond.selects "PennyMoreModel" ({ cls := "PennyMoreModel", name := "taken", desc := "(II)I" } : Jvm.MethodName) ({ cls := "PennyMoreModel", name := "taken", desc := "(II)I" } : Jvm.MethodName)) ∈ mm_G := mm_gi_7 (i := 106) rfl rfl
theorem gw_1054 : (Jvm.Cond.methodLink "PennyMoreLaw" (139 : Nat) ({ cls := "PennyMore", name := "count", desc := "(I)I" } : Jvm.MethodName)) ∈ mm_G := mm_gi_5 (i := 4) rfl rfl
theorem gw_1055 : (Jvm.Cond.instanceMethod ({ cls := "PennyMore", name := "count", desc := "(I)I" } : Jvm.MethodName)) ∈ mm_G := mm_gi_5 (i := 5) rfl rfl
theorem gw_1056 : (Jvm.Cond.selects "PennyMore" ({ cls := "PennyMore", name := "count", desc := "(I)I" } : Jvm.MethodName) ({ cls := "PennyMore", name := "count", desc := "(I)I" } : Jvm.MethodName)) ∈ mm_G := mm_gi_5 (i := 6) rfl rfl
theorem gw_1057 : (Jvm.Cond.methodLink "PennyMoreLaw" (142 : Nat) ({ cls := "PennyMoreModel", name := "count", desc := "(I)I" } : Jvm.MethodName)) ∈ mm_G := mm_gi_7 (i := 108) rfl rfl
theorem gw_1058 : (Jvm.Cond.instanceMethod ({ cls := "PennyMoreModel", name := "count", desc := "(I)I" } : Jvm.MethodName)) ∈ mm_G := mm_gi_7 (i := 109) rfl rfl
theorem gw_1059 : (Jvm.Cond.selects "PennyMoreModel" ({ cls := "PennyMoreModel", name := "count", desc := "(I)I" } : Jvm.MethodName) ({ cls := "PennyMoreModel", name := "count", desc := "(I)I" } : Jvm.MethodName)) ∈ mm_G := mm_gi_7 (i := 110) rfl rfl
theorem gw_1060 : (Jvm.Cond.methodLink "PennyMoreLaw" (143 : Nat) ({ cls := "PennyMore", name := "tape", desc := "(III)I" } : Jvm.MethodName)) ∈ mm_G := mm_gi_5 (i := 8) rfl rfl
theorem gw_1061 : (Jvm.Cond.instanceMethod ({ cls := "PennyMore", name := "tape", desc := "(III)I" } : Jvm.MethodName)) ∈ mm_G := mm_gi_5 (i := 9) rfl rfl
theorem gw_1062 : (Jvm.Cond.selects "PennyMore" ({ cls := "PennyMore", name := "tape", desc := "(III)I" } : Jvm.MethodName) ({ cls := "PennyMore", name := "tape", desc := "(III)I" } : Jvm.MethodName)) ∈ mm_G := mm_gi_5 (i := 10) rfl rfl
theorem gw_1063 : (Jvm.Cond.methodLink "PennyMoreLaw" (146 : Nat) ({ cls := "PennyMoreModel", name := "tape", desc := "(III)I" } : Jvm.MethodName)) ∈ mm_G := mm_gi_7 (i := 112) rfl rfl
theorem gw_1064 : (Jvm.Cond.instanceMethod ({ cls := "PennyMoreModel", name := "tape", desc := "(III)I" } : Jvm.MethodName)) ∈ mm_G := mm_gi_7 (i := 113) rfl rfl
theorem gw_1065 : (Jvm.Cond.selects "PennyMoreModel" ({ cls := "PennyMoreModel", name := "tape", desc := "(III)I" } : Jvm.MethodName) ({ cls := "PennyMoreModel", name := "tape", desc := "(III)I" } : Jvm.MethodName)) ∈ mm_G := mm_gi_7 (i := 114) rfl rfl
theorem gw_1066 : (Jvm.Cond.methodLink "PennyMoreLaw" (149 : Nat) ({ cls := "PennyMore", name := "item", desc := "(IIJ)I" } : Jvm.MethodName)) ∈ mm_G := mm_gi_5 (i := 16) rfl rfl
theorem gw_1067 : (Jvm.Cond.instanceMethod ({ cls := "PennyMore", name := "item", desc := "(IIJ)I" } : Jvm.MethodName)) ∈ mm_G := mm_gi_5 (i := 17) rfl rfl
theorem gw_1068 : (Jvm.Cond.selects "PennyMore" ({ cls := "PennyMore", name := "item", desc := "(IIJ)I" } : Jvm.MethodName) ({ cls := "PennyMore", name := "item", desc := "(IIJ)I" } : Jvm.MethodName)) ∈ mm_G := mm_gi_5 (i := 18) rfl rfl
theorem gw_1069 : (Jvm.Cond.methodLink "PennyMoreLaw" (153 : Nat) ({ cls := "PennyMoreModel", name := "item", desc := "(IIJ)I" } : Jvm.MethodName)) ∈ mm_G := mm_gi_7 (i := 116) rfl rfl
theorem gw_1070 : (Jvm.Cond.instanceMethod ({ cls := "PennyMoreModel", name := "item", desc := "(IIJ)I" } : Jvm.MethodName)) ∈ mm_G := mm_gi_7 (i := 117) rfl rfl
theorem gw_1071 : (Jvm.Cond.selects "PennyMoreModel" ({ cls := "PennyMoreModel", name := "item", desc := "(IIJ)I" } : Jvm.MethodName) ({ cls := "PennyMoreModel", name := "item", desc := "(IIJ)I" } : Jvm.MethodName)) ∈ mm_G := mm_gi_7 (i := 118) rfl rfl
theorem gw_1072 : (Jvm.Cond.methodLink "PennyMoreLaw" (154 : Nat) ({ cls := "PennyMore", name := "read", desc := "(II)J" } : Jvm.MethodName)) ∈ mm_G := mm_gi_5 (i := 28) rfl rfl
theorem gw_1073 : (Jvm.Cond.instanceMethod ({ cls := "PennyMore", name := "read", desc := "(II)J" } : Jvm.MethodName)) ∈ mm_G := mm_gi_5 (i := 29) rfl rfl
theorem gw_1074 : (Jvm.Cond.selects "PennyMore" ({ cls := "PennyMore", name := "read", desc := "(II)J" } : Jvm.MethodName) ({ cls := "PennyMore", name := "read", desc := "(II)J" } : Jvm.MethodName)) ∈ mm_G := mm_gi_5 (i := 30) rfl rfl
theorem gw_1075 : (Jvm.Cond.methodLink "PennyMoreLaw" (157 : Nat) ({ cls := "PennyMoreModel", name := "read", desc := "(II)J" } : Jvm.MethodName)) ∈ mm_G := mm_gi_7 (i := 123) rfl rfl
theorem gw_1076 : (Jvm.Cond.instanceMethod ({ cls := "PennyMoreModel", name := "read", desc := "(II)J" } : Jvm.MethodName)) ∈ mm_G := mm_gi_7 (i := 124) rfl rfl
theorem gw_1077 : (Jvm.Cond.selects "PennyMoreModel" ({ cls := "PennyMoreModel", name := "read", desc := "(II)J" } : Jvm.MethodName) ({ cls := "PennyMoreModel", name := "read", desc := "(II)J" } : Jvm.MethodName)) ∈ mm_G := mm_gi_7 (i := 125) rfl rfl
theorem gw_1078 : (Jvm.Cond.methodLink "PennyMoreLaw" (158 : Nat) ({ cls := "PennyMore", name := "shift", desc := "(IIIII)I" } : Jvm.MethodName)) ∈ mm_G := mm_gi_5 (i := 32) rfl rfl
theorem gw_1079 : (Jvm.Cond.instanceMethod ({ cls := "PennyMore", name := "shift", desc := "(IIIII)I" } : Jvm.MethodName)) ∈ mm_G := mm_gi_5 (i := 33) rfl rfl
theorem gw_1080 : (Jvm.Cond.selects "PennyMore" ({ cls := "PennyMore", name := "shift", desc := "(IIIII)I" } : Jvm.MethodName) ({ cls := "PennyMore", name := "shift", desc := "(IIIII)I" } : Jvm.MethodName)) ∈ mm_G := mm_gi_5 (i := 34) rfl rfl
theorem gw_1081 : (Jvm.Cond.methodLink "PennyMoreLaw" (162 : Nat) ({ cls := "PennyMoreModel", name := "shift", desc := "(IIIII)I" } : Jvm.MethodName)) ∈ mm_G := mm_gi_7 (i := 127) rfl rfl
theorem gw_1082 : (Jvm.Cond.instanceMethod ({ cls := "PennyMoreModel", name := "shift", desc := "(IIIII)I" } : Jvm.MethodName)) ∈ mm_G := mm_gi_7 (i := 128) rfl rfl
theorem gw_1083 : (Jvm.Cond.selects "PennyMoreModel" ({ cls := "PennyMoreModel", name := "shift", desc := "(IIIII)I" } : Jvm.MethodName) ({ cls := "PennyMoreModel", name := "shift", desc := "(IIIII)I" } : Jvm.MethodName)) ∈ mm_G := mm_gi_7 (i := 129) rfl rfl
theorem gw_1084 : (Jvm.Cond.methodLink "PennyMore$Falling" (3 : Nat) ({ cls := "PennyMore$Buyer", name := "<init>", desc := "(IIII)V" } : Jvm.MethodName)) ∈ mm_G := mm_gi_2 (i := 88) rfl rfl
theorem gw_1085 : (Jvm.Cond.instanceMethod ({ cls := "PennyMore$Buyer", name := "<init>", desc := "(IIII)V" } : Jvm.MethodName)) ∈ mm_G := mm_gi_2 (i := 33) rfl rfl
theorem gw_1086 : (Jvm.Cond.methodLink "PennyMore$Falling" (27 : Nat) ({ cls := "PennyMore$Buyer", name := "does", desc := "(LPennyMore$Day;)I" } : Jvm.MethodName)) ∈ mm_G := mm_gi_3 (i := 195) rfl rfl
theorem gw_1087 : (Jvm.Cond.superclass "PennyMore$Falling" "PennyMore$Buyer") ∈ mm_G := mm_gi_2 (i := 93) rfl rfl
theorem gw_1088 : (Jvm.Cond.methodLink "PennyMore$Falling" (35 : Nat) ({ cls := "PennyMore$Buyer", name := "tells", desc := "(I[I)I" } : Jvm.MethodName)) ∈ mm_G := mm_gi_4 (i := 215) rfl rfl
theorem gw_1089 : (Jvm.Cond.methodLink "PennyMore$Late" (3 : Nat) ({ cls := "PennyMore$Waiting", name := "<init>", desc := "(IIII)V" } : Jvm.MethodName)) ∈ mm_G := mm_gi_2 (i := 110) rfl rfl
theorem gw_1090 : (Jvm.Cond.instanceMethod ({ cls := "PennyMore$Waiting", name := "<init>", desc := "(IIII)V" } : Jvm.MethodName)) ∈ mm_G := mm_gi_2 (i := 75) rfl rfl
theorem gw_1091 : (Jvm.Cond.methodLink "PennyMore$Late" (27 : Nat) ({ cls := "PennyMore$Waiting", name := "does", desc := "(LPennyMore$Day;)I" } : Jvm.MethodName)) ∈ mm_G := mm_gi_3 (i := 203) rfl rfl
theorem gw_1092 : (Jvm.Cond.sameMethod "PennyMore$Waiting" "PennyMore$Waiting" "does" "(LPennyMore$Day;)I") ∈ mm_G := mm_gi_7 (i := 132) rfl rfl
theorem gw_1093 : (Jvm.Cond.superclass "PennyMore$Late" "PennyMore$Waiting") ∈ mm_G := mm_gi_2 (i := 115) rfl rfl
theorem gw_1094 : (Jvm.Cond.superclass "PennyMore$Waiting" "PennyMore$Buyer") ∈ mm_G := mm_gi_2 (i := 82) rfl rfl
theorem gw_1095 : (Jvm.Cond.methodLink "PennyMore$Late" (35 : Nat) ({ cls := "PennyMore$Waiting", name := "tells", desc := "(I[I)I" } : Jvm.MethodName)) ∈ mm_G := mm_gi_4 (i := 224) rfl rfl
theorem gw_1096 : (Jvm.Cond.sameMethod "PennyMore$Waiting" "PennyMore$Buyer" "tells" "(I[I)I") ∈ mm_G := mm_gi_4 (i := 225) rfl rfl
theorem gw_1097 : (Jvm.Cond.methodLink "PennyMore$Plain" (3 : Nat) ({ cls := "PennyMore$Buyer", name := "<init>", desc := "(IIII)V" } : Jvm.MethodName)) ∈ mm_G := mm_gi_2 (i := 32) rfl rfl
theorem gw_1098 : (Jvm.Cond.methodLink "PennyMore$Plain" (25 : Nat) ({ cls := "PennyMore$Buyer", name := "waits", desc := "(I[I)I" } : Jvm.MethodName)) ∈ mm_G := mm_gi_4 (i := 192) rfl rfl
theorem gw_1099 : (Jvm.Cond.superclass "PennyMore$Plain" "PennyMore$Buyer") ∈ mm_G := mm_gi_2 (i := 71) rfl rfl
theorem gw_1100 : (Jvm.Cond.methodLink "PennyMore$Sure" (3 : Nat) ({ cls := "PennyMore$Plain", name := "<init>", desc := "(IIII)V" } : Jvm.MethodName)) ∈ mm_G := mm_gi_2 (i := 99) rfl rfl
theorem gw_1101 : (Jvm.Cond.instanceMethod ({ cls := "PennyMore$Plain", name := "<init>", desc := "(IIII)V" } : Jvm.MethodName)) ∈ mm_G := mm_gi_2 (i := 30) rfl rfl
theorem gw_1102 : (Jvm.Cond.methodLink "PennyMore$Sure" (20 : Nat) ({ cls := "PennyMore$Plain", name := "does", desc := "(LPennyMore$Day;)I" } : Jvm.MethodName)) ∈ mm_G := mm_gi_3 (i := 218) rfl rfl
theorem gw_1103 : (Jvm.Cond.sameMethod "PennyMore$Plain" "PennyMore$Plain" "does" "(LPennyMore$Day;)I") ∈ mm_G := mm_gi_7 (i := 133) rfl rfl
theorem gw_1104 : (Jvm.Cond.superclass "PennyMore$Sure" "PennyMore$Plain") ∈ mm_G := mm_gi_2 (i := 104) rfl rfl
theorem gw_1105 : (Jvm.Cond.methodLink "PennyMore$Sure" (28 : Nat) ({ cls := "PennyMore$Plain", name := "bids", desc := "(I[I)I" } : Jvm.MethodName)) ∈ mm_G := mm_gi_4 (i := 168) rfl rfl
theorem gw_1106 : (Jvm.Cond.sameMethod "PennyMore$Plain" "PennyMore$Buyer" "bids" "(I[I)I") ∈ mm_G := mm_gi_4 (i := 169) rfl rfl
theorem gw_1107 : (Jvm.Cond.methodLink "PennyMore$Sure" (32 : Nat) ({ cls := "PennyMore$Plain", name := "waits", desc := "(I[I)I" } : Jvm.MethodName)) ∈ mm_G := mm_gi_4 (i := 196) rfl rfl
theorem gw_1108 : (Jvm.Cond.sameMethod "PennyMore$Plain" "PennyMore$Plain" "waits" "(I[I)I") ∈ mm_G := mm_gi_7 (i := 135) rfl rfl
theorem gw_1109 : (Jvm.Cond.methodLink "PennyMore$Told" (3 : Nat) ({ cls := "PennyMore$Falling", name := "<init>", desc := "(IIII)V" } : Jvm.MethodName)) ∈ mm_G := mm_gi_2 (i := 121) rfl rfl
theorem gw_1110 : (Jvm.Cond.instanceMethod ({ cls := "PennyMore$Falling", name := "<init>", desc := "(IIII)V" } : Jvm.MethodName)) ∈ mm_G := mm_gi_2 (i := 86) rfl rfl
theorem gw_1111 : (Jvm.Cond.methodLink "PennyMore$Told" (28 : Nat) ({ cls := "PennyMore$Falling", name := "does", desc := "(LPennyMore$Day;)I" } : Jvm.MethodName)) ∈ mm_G := mm_gi_3 (i := 223) rfl rfl
theorem gw_1112 : (Jvm.Cond.sameMethod "PennyMore$Falling" "PennyMore$Falling" "does" "(LPennyMore$Day;)I") ∈ mm_G := mm_gi_7 (i := 134) rfl rfl
theorem gw_1113 : (Jvm.Cond.superclass "PennyMore$Told" "PennyMore$Falling") ∈ mm_G := mm_gi_2 (i := 126) rfl rfl
theorem gw_1114 : (Jvm.Cond.methodLink "PennyMore$Told" (36 : Nat) ({ cls := "PennyMore$Falling", name := "waits", desc := "(I[I)I" } : Jvm.MethodName)) ∈ mm_G := mm_gi_4 (i := 200) rfl rfl
theorem gw_1115 : (Jvm.Cond.methodLink "PennyMore$Told" (40 : Nat) ({ cls := "PennyMore$Falling", name := "bids", desc := "(I[I)I" } : Jvm.MethodName)) ∈ mm_G := mm_gi_4 (i := 176) rfl rfl
theorem gw_1116 : (Jvm.Cond.sameMethod "PennyMore$Falling" "PennyMore$Buyer" "bids" "(I[I)I") ∈ mm_G := mm_gi_4 (i := 177) rfl rfl
theorem gw_1117 : (Jvm.Cond.methodLink "PennyMore$Waiting" (3 : Nat) ({ cls := "PennyMore$Buyer", name := "<init>", desc := "(IIII)V" } : Jvm.MethodName)) ∈ mm_G := mm_gi_2 (i := 77) rfl rfl
theorem gw_1118 : (Jvm.Cond.methodLink "PennyMore$Waiting" (27 : Nat) ({ cls := "PennyMore$Buyer", name := "does", desc := "(LPennyMore$Day;)I" } : Jvm.MethodName)) ∈ mm_G := mm_gi_3 (i := 207) rfl rfl
theorem gw_1119 : (Jvm.Cond.methodLink "PennyMore$Waiting" (35 : Nat) ({ cls := "PennyMore$Buyer", name := "bids", desc := "(I[I)I" } : Jvm.MethodName)) ∈ mm_G := mm_gi_4 (i := 161) rfl rfl
theorem gw_1120 : (Jvm.Cond.methodLink "PennyMore" (11 : Nat) ({ cls := "PennyMore$Shop", name := "<init>", desc := "()V" } : Jvm.MethodName)) ∈ mm_G := mm_gi_1 (i := 31) rfl rfl
theorem gw_1121 : (Jvm.Cond.instanceMethod ({ cls := "PennyMore$Shop", name := "<init>", desc := "()V" } : Jvm.MethodName)) ∈ mm_G := mm_gi_1 (i := 32) rfl rfl
theorem gw_1122 : (Jvm.Cond.methodLink "PennyMore" (14 : Nat) ({ cls := "PennyMore$Day", name := "<init>", desc := "(LPennyMore$Shop;)V" } : Jvm.MethodName)) ∈ mm_G := mm_gi_1 (i := 85) rfl rfl
theorem gw_1123 : (Jvm.Cond.instanceMethod ({ cls := "PennyMore$Day", name := "<init>", desc := "(LPennyMore$Shop;)V" } : Jvm.MethodName)) ∈ mm_G := mm_gi_1 (i := 86) rfl rfl
theorem gw_1124 : (Jvm.Cond.instanceMethod ({ cls := "PennyMore$Reader", name := "<init>", desc := "()V" } : Jvm.MethodName)) ∈ mm_G := mm_gi_1 (i := 182) rfl rfl
theorem gw_1125 : (Jvm.Cond.instanceMethod ({ cls := "PennyMore$Tape", name := "<init>", desc := "()V" } : Jvm.MethodName)) ∈ mm_G := mm_gi_1 (i := 203) rfl rfl
theorem gw_1126 : (Jvm.Cond.methodLink "PennyMore" (328 : Nat) ({ cls := "PennyMore$Plain", name := "<init>", desc := "(IIII)V" } : Jvm.MethodName)) ∈ mm_G := mm_gi_2 (i := 29) rfl rfl
theorem gw_1127 : (Jvm.Cond.methodLink "PennyMore" (333 : Nat) ({ cls := "PennyMore$Waiting", name := "<init>", desc := "(IIII)V" } : Jvm.MethodName)) ∈ mm_G := mm_gi_2 (i := 74) rfl rfl
theorem gw_1128 : (Jvm.Cond.methodLink "PennyMore" (336 : Nat) ({ cls := "PennyMore$Falling", name := "<init>", desc := "(IIII)V" } : Jvm.MethodName)) ∈ mm_G := mm_gi_2 (i := 85) rfl rfl
theorem gw_1129 : (Jvm.Cond.methodLink "PennyMore" (339 : Nat) ({ cls := "PennyMore$Sure", name := "<init>", desc := "(IIII)V" } : Jvm.MethodName)) ∈ mm_G := mm_gi_2 (i := 96) rfl rfl
theorem gw_1130 : (Jvm.Cond.instanceMethod ({ cls := "PennyMore$Sure", name := "<init>", desc := "(IIII)V" } : Jvm.MethodName)) ∈ mm_G := mm_gi_2 (i := 97) rfl rfl
theorem gw_1131 : (Jvm.Cond.methodLink "PennyMore" (342 : Nat) ({ cls := "PennyMore$Late", name := "<init>", desc := "(IIII)V" } : Jvm.MethodName)) ∈ mm_G := mm_gi_2 (i := 107) rfl rfl
theorem gw_1132 : (Jvm.Cond.instanceMethod ({ cls := "PennyMore$Late", name := "<init>", desc := "(IIII)V" } : Jvm.MethodName)) ∈ mm_G := mm_gi_2 (i := 108) rfl rfl
theorem gw_1133 : (Jvm.Cond.methodLink "PennyMore" (345 : Nat) ({ cls := "PennyMore$Told", name := "<init>", desc := "(IIII)V" } : Jvm.MethodName)) ∈ mm_G := mm_gi_2 (i := 118) rfl rfl
theorem gw_1134 : (Jvm.Cond.instanceMethod ({ cls := "PennyMore$Told", name := "<init>", desc := "(IIII)V" } : Jvm.MethodName)) ∈ mm_G := mm_gi_2 (i := 119) rfl rfl
theorem gw_1135 : (Jvm.Cond.methodLink "PennyMore" (346 : Nat) ({ cls := "PennyMore$Buyer", name := "<init>", desc := "(IIII)V" } : Jvm.MethodName)) ∈ mm_G := mm_gi_2 (i := 129) rfl rfl
theorem gw_1136 : (Jvm.Cond.methodLink "PennyMoreLaw" (9 : Nat) ({ cls := "PennyMore", name := "<init>", desc := "()V" } : Jvm.MethodName)) ∈ mm_G := mm_gi_1 (i := 23) rfl rfl
theorem gw_1137 : (Jvm.Cond.instanceMethod ({ cls := "PennyMore", name := "<init>", desc := "()V" } : Jvm.MethodName)) ∈ mm_G := mm_gi_1 (i := 24) rfl rfl
theorem gw_1138 : (Jvm.Cond.methodLink "PennyMoreLaw" (12 : Nat) ({ cls := "PennyMoreModel", name := "<init>", desc := "()V" } : Jvm.MethodName)) ∈ mm_G := mm_gi_5 (i := 42) rfl rfl
theorem gw_1139 : (Jvm.Cond.instanceMethod ({ cls := "PennyMoreModel", name := "<init>", desc := "()V" } : Jvm.MethodName)) ∈ mm_G := mm_gi_5 (i := 43) rfl rfl
theorem gw_1140 : (Jvm.Cond.methodLink "PennyMore$Buyer" (3 : Nat) ({ cls := "java/lang/Object", name := "<init>", desc := "()V" } : Jvm.MethodName)) ∈ mm_G := mm_gi_2 (i := 35) rfl rfl
theorem gw_1141 : (Jvm.Cond.methodLink "PennyMore$Day" (3 : Nat) ({ cls := "java/lang/Object", name := "<init>", desc := "()V" } : Jvm.MethodName)) ∈ mm_G := mm_gi_1 (i := 88) rfl rfl
theorem gw_1142 : (Jvm.Cond.methodLink "PennyMore$Reader" (1 : Nat) ({ cls := "java/lang/Object", name := "<init>", desc := "()V" } : Jvm.MethodName)) ∈ mm_G := mm_gi_1 (i := 184) rfl rfl
theorem gw_1143 : (Jvm.Cond.methodLink "PennyMore$Shop" (1 : Nat) ({ cls := "java/lang/Object", name := "<init>", desc := "()V" } : Jvm.MethodName)) ∈ mm_G := mm_gi_1 (i := 34) rfl rfl
theorem gw_1144 : (Jvm.Cond.methodLink "PennyMore$Tape" (1 : Nat) ({ cls := "java/lang/Object", name := "<init>", desc := "()V" } : Jvm.MethodName)) ∈ mm_G := mm_gi_1 (i := 205) rfl rfl
theorem gw_1145 : (Jvm.Cond.methodLink "PennyMore" (3 : Nat) ({ cls := "java/lang/Object", name := "<init>", desc := "()V" } : Jvm.MethodName)) ∈ mm_G := mm_gi_1 (i := 26) rfl rfl
theorem gw_1146 : (Jvm.Cond.methodLink "PennyMoreModel" (3 : Nat) ({ cls := "java/lang/Object", name := "<init>", desc := "()V" } : Jvm.MethodName)) ∈ mm_G := mm_gi_5 (i := 45) rfl rfl
theorem gw_1147 : (Jvm.Cond.instanceMethod ({ cls := "java/lang/Object", name := "<init>", desc := "()V" } : Jvm.MethodName)) ∈ mm_G := mm_gi_1 (i := 27) rfl rfl
theorem gw_1148 : (Jvm.Cond.code ({ cls := "java/lang/Object", name := "<init>", desc := "()V" } : Jvm.MethodName) object_method_1_code (1 : Nat) (Option.none : Option Jvm.ClassFile.FieldType)) ∈ mm_G := mm_gi_1 (i := 28) rfl rfl
theorem gw_1149 : (Jvm.Cond.methodLink "PennyMore$Day" (56 : Nat) ({ cls := "java/lang/System", name := "arraycopy", desc := "(Ljava/lang/Object;ILjava/lang/Object;II)V" } : Jvm.MethodName)) ∈ mm_G := mm_gi_3 (i := 176) rfl rfl
theorem gw_1150 : (Jvm.Cond.methodLink "PennyMore" (320 : Nat) ({ cls := "java/lang/System", name := "arraycopy", desc := "(Ljava/lang/Object;ILjava/lang/Object;II)V" } : Jvm.MethodName)) ∈ mm_G := mm_gi_4 (i := 54) rfl rfl
theorem gw_1151 : (Jvm.Cond.native ({ cls := "java/lang/System", name := "arraycopy", desc := "(Ljava/lang/Object;ILjava/lang/Object;II)V" } : Jvm.MethodName)) ∈ mm_G := mm_gi_3 (i := 178) rfl rfl
theorem gw_1152 : (Jvm.Cond.static ({ cls := "java/lang/System", name := "arraycopy", desc := "(Ljava/lang/Object;ILjava/lang/Object;II)V" } : Jvm.MethodName)) ∈ mm_G := mm_gi_3 (i := 177) rfl rfl
theorem gw_1153 : (Jvm.Cond.initialized "java/lang/System") ∈ mm_G := mm_gi_1 (i := 20) rfl rfl
theorem gw_1154 : (Jvm.Cond.methodLink "PennyMore$Day" (127 : Nat) ({ cls := "java/lang/Math", name := "min", desc := "(II)I" } : Jvm.MethodName)) ∈ mm_G := mm_gi_4 (i := 5) rfl rfl
theorem gw_1155 : (Jvm.Cond.methodLink "PennyMore$Reader" (92 : Nat) ({ cls := "java/lang/Math", name := "min", desc := "(II)I" } : Jvm.MethodName)) ∈ mm_G := mm_gi_3 (i := 149) rfl rfl
theorem gw_1156 : (Jvm.Cond.methodLink "PennyMore" (248 : Nat) ({ cls := "java/lang/Math", name := "min", desc := "(II)I" } : Jvm.MethodName)) ∈ mm_G := mm_gi_4 (i := 95) rfl rfl
theorem gw_1157 : (Jvm.Cond.methodLink "java/lang/StringLatin1" (38 : Nat) ({ cls := "java/lang/Math", name := "min", desc := "(II)I" } : Jvm.MethodName)) ∈ mm_G := mm_gi_3 (i := 95) rfl rfl
theorem gw_1158 : (Jvm.Cond.methodLink "java/lang/StringLatin1" (92 : Nat) ({ cls := "java/lang/Math", name := "max", desc := "(II)I" } : Jvm.MethodName)) ∈ mm_G := mm_gi_3 (i := 92) rfl rfl
theorem gw_1159 : (Jvm.Cond.static ({ cls := "java/lang/Math", name := "min", desc := "(II)I" } : Jvm.MethodName)) ∈ mm_G := mm_gi_3 (i := 96) rfl rfl
theorem gw_1160 : (Jvm.Cond.code ({ cls := "java/lang/Math", name := "min", desc := "(II)I" } : Jvm.MethodName) prog_16_method_69_code (2 : Nat) (Option.some Jvm.ClassFile.FieldType.int)) ∈ mm_G := mm_gi_3 (i := 97) rfl rfl
theorem gw_1161 : (Jvm.Cond.static ({ cls := "java/lang/Math", name := "max", desc := "(II)I" } : Jvm.MethodName)) ∈ mm_G := mm_gi_3 (i := 93) rfl rfl
theorem gw_1162 : (Jvm.Cond.code ({ cls := "java/lang/Math", name := "max", desc := "(II)I" } : Jvm.MethodName) prog_16_method_65_code (2 : Nat) (Option.some Jvm.ClassFile.FieldType.int)) ∈ mm_G := mm_gi_3 (i := 94) rfl rfl
theorem gw_1163 : (Jvm.Cond.initialized "java/lang/Math") ∈ mm_G := mm_gi_1 (i := 18) rfl rfl
theorem gw_1164 : (Jvm.Cond.classLink "PennyMore" (9 : Nat) "PennyMore$Shop") ∈ mm_G := mm_gi_1 (i := 29) rfl rfl
theorem gw_1165 : (Jvm.Cond.instantiable "PennyMore$Shop" (10 : Nat)) ∈ mm_G := mm_gi_1 (i := 30) rfl rfl
theorem gw_1166 : (Jvm.Cond.classLink "PennyMore" (12 : Nat) "PennyMore$Day") ∈ mm_G := mm_gi_1 (i := 83) rfl rfl
theorem gw_1167 : (Jvm.Cond.instantiable "PennyMore$Day" (20 : Nat)) ∈ mm_G := mm_gi_1 (i := 84) rfl rfl
theorem gw_1168 : (Jvm.Cond.classLink "PennyMore" (36 : Nat) "PennyMore$Reader") ∈ mm_G := mm_gi_1 (i := 179) rfl rfl
theorem gw_1169 : (Jvm.Cond.instantiable "PennyMore$Reader" (4 : Nat)) ∈ mm_G := mm_gi_1 (i := 180) rfl rfl
theorem gw_1170 : (Jvm.Cond.classLink "PennyMore" (43 : Nat) "PennyMore$Tape") ∈ mm_G := mm_gi_1 (i := 199) rfl rfl
theorem gw_1171 : (Jvm.Cond.instantiable "PennyMore$Tape" (3 : Nat)) ∈ mm_G := mm_gi_1 (i := 201) rfl rfl
theorem gw_1172 : (Jvm.Cond.classLink "PennyMore" (63 : Nat) "PennyMore$Buyer") ∈ mm_G := mm_gi_2 (i := 127) rfl rfl
theorem gw_1173 : (Jvm.Cond.instantiable "PennyMore$Buyer" (4 : Nat)) ∈ mm_G := mm_gi_2 (i := 128) rfl rfl
theorem gw_1174 : (Jvm.Cond.classLink "PennyMore" (326 : Nat) "PennyMore$Plain") ∈ mm_G := mm_gi_2 (i := 27) rfl rfl
theorem gw_1175 : (Jvm.Cond.instantiable "PennyMore$Plain" (4 : Nat)) ∈ mm_G := mm_gi_2 (i := 28) rfl rfl
theorem gw_1176 : (Jvm.Cond.classLink "PennyMore" (331 : Nat) "PennyMore$Waiting") ∈ mm_G := mm_gi_2 (i := 72) rfl rfl
theorem gw_1177 : (Jvm.Cond.instantiable "PennyMore$Waiting" (4 : Nat)) ∈ mm_G := mm_gi_2 (i := 73) rfl rfl
theorem gw_1178 : (Jvm.Cond.classLink "PennyMore" (334 : Nat) "PennyMore$Falling") ∈ mm_G := mm_gi_2 (i := 83) rfl rfl
theorem gw_1179 : (Jvm.Cond.instantiable "PennyMore$Falling" (4 : Nat)) ∈ mm_G := mm_gi_2 (i := 84) rfl rfl
theorem gw_1180 : (Jvm.Cond.classLink "PennyMore" (337 : Nat) "PennyMore$Sure") ∈ mm_G := mm_gi_2 (i := 94) rfl rfl
theorem gw_1181 : (Jvm.Cond.instantiable "PennyMore$Sure" (4 : Nat)) ∈ mm_G := mm_gi_2 (i := 95) rfl rfl
theorem gw_1182 : (Jvm.Cond.classLink "PennyMore" (340 : Nat) "PennyMore$Late") ∈ mm_G := mm_gi_2 (i := 105) rfl rfl
theorem gw_1183 : (Jvm.Cond.instantiable "PennyMore$Late" (4 : Nat)) ∈ mm_G := mm_gi_2 (i := 106) rfl rfl
theorem gw_1184 : (Jvm.Cond.classLink "PennyMore" (343 : Nat) "PennyMore$Told") ∈ mm_G := mm_gi_2 (i := 116) rfl rfl
theorem gw_1185 : (Jvm.Cond.instantiable "PennyMore$Told" (4 : Nat)) ∈ mm_G := mm_gi_2 (i := 117) rfl rfl
theorem gw_1186 : (Jvm.Cond.classLink "PennyMoreLaw" (7 : Nat) "PennyMore") ∈ mm_G := mm_gi_1 (i := 21) rfl rfl
theorem gw_1187 : (Jvm.Cond.instantiable "PennyMore" (13 : Nat)) ∈ mm_G := mm_gi_1 (i := 22) rfl rfl
theorem gw_1188 : (Jvm.Cond.classLink "PennyMoreLaw" (10 : Nat) "PennyMoreModel") ∈ mm_G := mm_gi_5 (i := 40) rfl rfl
theorem gw_1189 : (Jvm.Cond.instantiable "PennyMoreModel" (76 : Nat)) ∈ mm_G := mm_gi_5 (i := 41) rfl rfl
theorem gw_1190 : (Jvm.Cond.laysFinal "PennyMore$Buyer" "PennyMore$Buyer" "kind" "I") ∈ mm_G := mm_gi_2 (i := 130) rfl rfl
theorem gw_1191 : (Jvm.Cond.laysFinal "PennyMore$Buyer" "PennyMore$Buyer" "number" "I") ∈ mm_G := mm_gi_2 (i := 131) rfl rfl
theorem gw_1192 : (Jvm.Cond.laysFinal "PennyMore$Buyer" "PennyMore$Buyer" "v" "I") ∈ mm_G := mm_gi_2 (i := 132) rfl rfl
theorem gw_1193 : (Jvm.Cond.laysFinal "PennyMore$Buyer" "PennyMore$Buyer" "worth" "I") ∈ mm_G := mm_gi_2 (i := 133) rfl rfl
theorem gw_1194 : (Jvm.Cond.laysFinal "PennyMore$Day" "PennyMore$Day" "buyers" "[LPennyMore$Buyer;") ∈ mm_G := mm_gi_1 (i := 137) rfl rfl
theorem gw_1195 : (Jvm.Cond.laysFinal "PennyMore$Day" "PennyMore$Day" "friends" "[I") ∈ mm_G := mm_gi_1 (i := 139) rfl rfl
theorem gw_1196 : (Jvm.Cond.laysFinal "PennyMore$Day" "PennyMore$Day" "tells" "[I") ∈ mm_G := mm_gi_1 (i := 141) rfl rfl
theorem gw_1197 : (Jvm.Cond.laysFinal "PennyMore$Day" "PennyMore$Day" "aways" "[I") ∈ mm_G := mm_gi_1 (i := 143) rfl rfl
theorem gw_1198 : (Jvm.Cond.laysFinal "PennyMore$Day" "PennyMore$Day" "gained" "[I") ∈ mm_G := mm_gi_1 (i := 145) rfl rfl
theorem gw_1199 : (Jvm.Cond.laysFinal "PennyMore$Day" "PennyMore$Day" "row" "[I") ∈ mm_G := mm_gi_1 (i := 147) rfl rfl
theorem gw_1200 : (Jvm.Cond.laysFinal "PennyMore$Day" "PennyMore$Day" "film" "[I") ∈ mm_G := mm_gi_1 (i := 149) rfl rfl
theorem gw_1201 : (Jvm.Cond.laysFinal "PennyMore$Day" "PennyMore$Day" "measures" "[I") ∈ mm_G := mm_gi_1 (i := 151) rfl rfl
theorem gw_1202 : (Jvm.Cond.lays "PennyMore$Day" "PennyMore$Day" "shop" "LPennyMore$Shop;") ∈ mm_G := mm_gi_1 (i := 153) rfl rfl
theorem gw_1203 : (Jvm.Cond.lays "PennyMore$Day" "PennyMore$Day" "fee" "I") ∈ mm_G := mm_gi_1 (i := 155) rfl rfl
theorem gw_1204 : (Jvm.Cond.lays "PennyMore$Day" "PennyMore$Day" "known" "I") ∈ mm_G := mm_gi_1 (i := 157) rfl rfl
theorem gw_1205 : (Jvm.Cond.lays "PennyMore$Day" "PennyMore$Day" "standing" "I") ∈ mm_G := mm_gi_1 (i := 159) rfl rfl
theorem gw_1206 : (Jvm.Cond.lays "PennyMore$Day" "PennyMore$Day" "price" "I") ∈ mm_G := mm_gi_1 (i := 161) rfl rfl
theorem gw_1207 : (Jvm.Cond.lays "PennyMore$Day" "PennyMore$Day" "loaves" "I") ∈ mm_G := mm_gi_1 (i := 163) rfl rfl
theorem gw_1208 : (Jvm.Cond.lays "PennyMore$Day" "PennyMore$Day" "till" "I") ∈ mm_G := mm_gi_1 (i := 165) rfl rfl
theorem gw_1209 : (Jvm.Cond.lays "PennyMore$Day" "PennyMore$Day" "turns" "I") ∈ mm_G := mm_gi_1 (i := 167) rfl rfl
theorem gw_1210 : (Jvm.Cond.lays "PennyMore$Day" "PennyMore$Day" "slips" "I") ∈ mm_G := mm_gi_1 (i := 169) rfl rfl
theorem gw_1211 : (Jvm.Cond.lays "PennyMore$Day" "PennyMore$Day" "filmed" "I") ∈ mm_G := mm_gi_1 (i := 171) rfl rfl
theorem gw_1212 : (Jvm.Cond.lays "PennyMore$Day" "PennyMore$Day" "value" "I") ∈ mm_G := mm_gi_1 (i := 173) rfl rfl
theorem gw_1213 : (Jvm.Cond.lays "PennyMore$Day" "PennyMore$Day" "cost" "I") ∈ mm_G := mm_gi_1 (i := 175) rfl rfl
theorem gw_1214 : (Jvm.Cond.laysFinal "PennyMore$Falling" "PennyMore$Buyer" "kind" "I") ∈ mm_G := mm_gi_2 (i := 89) rfl rfl
theorem gw_1215 : (Jvm.Cond.laysFinal "PennyMore$Falling" "PennyMore$Buyer" "number" "I") ∈ mm_G := mm_gi_2 (i := 90) rfl rfl
theorem gw_1216 : (Jvm.Cond.laysFinal "PennyMore$Falling" "PennyMore$Buyer" "v" "I") ∈ mm_G := mm_gi_2 (i := 91) rfl rfl
theorem gw_1217 : (Jvm.Cond.laysFinal "PennyMore$Falling" "PennyMore$Buyer" "worth" "I") ∈ mm_G := mm_gi_2 (i := 92) rfl rfl
theorem gw_1218 : (Jvm.Cond.laysFinal "PennyMore$Late" "PennyMore$Buyer" "kind" "I") ∈ mm_G := mm_gi_2 (i := 111) rfl rfl
theorem gw_1219 : (Jvm.Cond.laysFinal "PennyMore$Late" "PennyMore$Buyer" "number" "I") ∈ mm_G := mm_gi_2 (i := 112) rfl rfl
theorem gw_1220 : (Jvm.Cond.laysFinal "PennyMore$Late" "PennyMore$Buyer" "v" "I") ∈ mm_G := mm_gi_2 (i := 113) rfl rfl
theorem gw_1221 : (Jvm.Cond.laysFinal "PennyMore$Late" "PennyMore$Buyer" "worth" "I") ∈ mm_G := mm_gi_2 (i := 114) rfl rfl
theorem gw_1222 : (Jvm.Cond.laysFinal "PennyMore$Plain" "PennyMore$Buyer" "kind" "I") ∈ mm_G := mm_gi_2 (i := 63) rfl rfl
theorem gw_1223 : (Jvm.Cond.laysFinal "PennyMore$Plain" "PennyMore$Buyer" "number" "I") ∈ mm_G := mm_gi_2 (i := 65) rfl rfl
theorem gw_1224 : (Jvm.Cond.laysFinal "PennyMore$Plain" "PennyMore$Buyer" "v" "I") ∈ mm_G := mm_gi_2 (i := 67) rfl rfl
theorem gw_1225 : (Jvm.Cond.laysFinal "PennyMore$Plain" "PennyMore$Buyer" "worth" "I") ∈ mm_G := mm_gi_2 (i := 69) rfl rfl
theorem gw_1226 : (Jvm.Cond.lays "PennyMore$Reader" "PennyMore$Reader" "size" "I") ∈ mm_G := mm_gi_1 (i := 190) rfl rfl
theorem gw_1227 : (Jvm.Cond.laysFinal "PennyMore$Reader" "PennyMore$Reader" "text" "[I") ∈ mm_G := mm_gi_1 (i := 192) rfl rfl
theorem gw_1228 : (Jvm.Cond.lays "PennyMore$Reader" "PennyMore$Reader" "at" "I") ∈ mm_G := mm_gi_1 (i := 194) rfl rfl
theorem gw_1229 : (Jvm.Cond.lays "PennyMore$Reader" "PennyMore$Reader" "shop" "LPennyMore$Shop;") ∈ mm_G := mm_gi_1 (i := 196) rfl rfl
theorem gw_1230 : (Jvm.Cond.lays "PennyMore$Shop" "PennyMore$Shop" "up" "I") ∈ mm_G := mm_gi_1 (i := 61) rfl rfl
theorem gw_1231 : (Jvm.Cond.lays "PennyMore$Shop" "PennyMore$Shop" "down" "I") ∈ mm_G := mm_gi_1 (i := 63) rfl rfl
theorem gw_1232 : (Jvm.Cond.lays "PennyMore$Shop" "PennyMore$Shop" "away" "I") ∈ mm_G := mm_gi_1 (i := 65) rfl rfl
theorem gw_1233 : (Jvm.Cond.lays "PennyMore$Shop" "PennyMore$Shop" "fee" "I") ∈ mm_G := mm_gi_1 (i := 67) rfl rfl
theorem gw_1234 : (Jvm.Cond.laysFinal "PennyMore$Shop" "PennyMore$Shop" "sorts" "[I") ∈ mm_G := mm_gi_1 (i := 69) rfl rfl
theorem gw_1235 : (Jvm.Cond.laysFinal "PennyMore$Shop" "PennyMore$Shop" "amounts" "[I") ∈ mm_G := mm_gi_1 (i := 71) rfl rfl
theorem gw_1236 : (Jvm.Cond.laysFinal "PennyMore$Shop" "PennyMore$Shop" "ends" "[I") ∈ mm_G := mm_gi_1 (i := 73) rfl rfl
theorem gw_1237 : (Jvm.Cond.laysFinal "PennyMore$Shop" "PennyMore$Shop" "code" "[I") ∈ mm_G := mm_gi_1 (i := 75) rfl rfl
theorem gw_1238 : (Jvm.Cond.lays "PennyMore$Shop" "PennyMore$Shop" "clauses" "I") ∈ mm_G := mm_gi_1 (i := 77) rfl rfl
theorem gw_1239 : (Jvm.Cond.lays "PennyMore$Shop" "PennyMore$Shop" "coded" "I") ∈ mm_G := mm_gi_1 (i := 79) rfl rfl
theorem gw_1240 : (Jvm.Cond.laysFinal "PennyMore$Sure" "PennyMore$Buyer" "kind" "I") ∈ mm_G := mm_gi_2 (i := 100) rfl rfl
theorem gw_1241 : (Jvm.Cond.laysFinal "PennyMore$Sure" "PennyMore$Buyer" "number" "I") ∈ mm_G := mm_gi_2 (i := 101) rfl rfl
theorem gw_1242 : (Jvm.Cond.laysFinal "PennyMore$Sure" "PennyMore$Buyer" "v" "I") ∈ mm_G := mm_gi_2 (i := 102) rfl rfl
theorem gw_1243 : (Jvm.Cond.laysFinal "PennyMore$Sure" "PennyMore$Buyer" "worth" "I") ∈ mm_G := mm_gi_2 (i := 103) rfl rfl
theorem gw_1244 : (Jvm.Cond.laysFinal "PennyMore$Tape" "PennyMore$Tape" "items" "[J") ∈ mm_G := mm_gi_1 (i := 212) rfl rfl
theorem gw_1245 : (Jvm.Cond.lays "PennyMore$Tape" "PennyMore$Tape" "sort" "I") ∈ mm_G := mm_gi_1 (i := 214) rfl rfl
theorem gw_1246 : (Jvm.Cond.lays "PennyMore$Tape" "PennyMore$Tape" "size" "I") ∈ mm_G := mm_gi_1 (i := 216) rfl rfl
theorem gw_1247 : (Jvm.Cond.laysFinal "PennyMore$Told" "PennyMore$Buyer" "kind" "I") ∈ mm_G := mm_gi_2 (i := 122) rfl rfl
theorem gw_1248 : (Jvm.Cond.laysFinal "PennyMore$Told" "PennyMore$Buyer" "number" "I") ∈ mm_G := mm_gi_2 (i := 123) rfl rfl
theorem gw_1249 : (Jvm.Cond.laysFinal "PennyMore$Told" "PennyMore$Buyer" "v" "I") ∈ mm_G := mm_gi_2 (i := 124) rfl rfl
theorem gw_1250 : (Jvm.Cond.laysFinal "PennyMore$Told" "PennyMore$Buyer" "worth" "I") ∈ mm_G := mm_gi_2 (i := 125) rfl rfl
theorem gw_1251 : (Jvm.Cond.laysFinal "PennyMore$Waiting" "PennyMore$Buyer" "kind" "I") ∈ mm_G := mm_gi_2 (i := 78) rfl rfl
theorem gw_1252 : (Jvm.Cond.laysFinal "PennyMore$Waiting" "PennyMore$Buyer" "number" "I") ∈ mm_G := mm_gi_2 (i := 79) rfl rfl
theorem gw_1253 : (Jvm.Cond.laysFinal "PennyMore$Waiting" "PennyMore$Buyer" "v" "I") ∈ mm_G := mm_gi_2 (i := 80) rfl rfl
theorem gw_1254 : (Jvm.Cond.laysFinal "PennyMore$Waiting" "PennyMore$Buyer" "worth" "I") ∈ mm_G := mm_gi_2 (i := 81) rfl rfl
theorem gw_1255 : (Jvm.Cond.laysFinal "PennyMore" "PennyMore" "now" "LPennyMore$Day;") ∈ mm_G := mm_gi_1 (i := 233) rfl rfl
theorem gw_1256 : (Jvm.Cond.laysFinal "PennyMore" "PennyMore" "image" "LPennyMore$Day;") ∈ mm_G := mm_gi_1 (i := 235) rfl rfl
theorem gw_1257 : (Jvm.Cond.laysFinal "PennyMore" "PennyMore" "trial" "LPennyMore$Day;") ∈ mm_G := mm_gi_1 (i := 237) rfl rfl
theorem gw_1258 : (Jvm.Cond.laysFinal "PennyMore" "PennyMore" "base" "LPennyMore$Day;") ∈ mm_G := mm_gi_1 (i := 239) rfl rfl
theorem gw_1259 : (Jvm.Cond.laysFinal "PennyMore" "PennyMore" "shops" "[LPennyMore$Shop;") ∈ mm_G := mm_gi_2 (i := 1) rfl rfl
theorem gw_1260 : (Jvm.Cond.laysFinal "PennyMore" "PennyMore" "reader" "LPennyMore$Reader;") ∈ mm_G := mm_gi_2 (i := 3) rfl rfl
theorem gw_1261 : (Jvm.Cond.laysFinal "PennyMore" "PennyMore" "tapes" "[LPennyMore$Tape;") ∈ mm_G := mm_gi_2 (i := 5) rfl rfl
theorem gw_1262 : (Jvm.Cond.laysFinal "PennyMore" "PennyMore" "ran" "[I") ∈ mm_G := mm_gi_2 (i := 7) rfl rfl
theorem gw_1263 : (Jvm.Cond.laysFinal "PennyMore" "PennyMore" "lineup" "[I") ∈ mm_G := mm_gi_2 (i := 9) rfl rfl
theorem gw_1264 : (Jvm.Cond.laysFinal "PennyMore" "PennyMore" "bestLineup" "[I") ∈ mm_G := mm_gi_2 (i := 11) rfl rfl
theorem gw_1265 : (Jvm.Cond.laysFinal "PennyMore" "PennyMore" "values" "[I") ∈ mm_G := mm_gi_2 (i := 13) rfl rfl
theorem gw_1266 : (Jvm.Cond.lays "PennyMore" "PennyMore" "shopsRead" "I") ∈ mm_G := mm_gi_2 (i := 15) rfl rfl
theorem gw_1267 : (Jvm.Cond.lays "PennyMore" "PennyMore" "imageTaken" "Z") ∈ mm_G := mm_gi_2 (i := 17) rfl rfl
theorem gw_1268 : (Jvm.Cond.lays "PennyMoreModel" "PennyMoreModel" "buyers" "I") ∈ mm_G := mm_gi_5 (i := 122) rfl rfl
theorem gw_1269 : (Jvm.Cond.laysFinal "PennyMoreModel" "PennyMoreModel" "kind" "[I") ∈ mm_G := mm_gi_5 (i := 124) rfl rfl
theorem gw_1270 : (Jvm.Cond.laysFinal "PennyMoreModel" "PennyMoreModel" "number" "[I") ∈ mm_G := mm_gi_5 (i := 126) rfl rfl
theorem gw_1271 : (Jvm.Cond.laysFinal "PennyMoreModel" "PennyMoreModel" "worth" "[I") ∈ mm_G := mm_gi_5 (i := 128) rfl rfl
theorem gw_1272 : (Jvm.Cond.laysFinal "PennyMoreModel" "PennyMoreModel" "friend" "[I") ∈ mm_G := mm_gi_5 (i := 130) rfl rfl
theorem gw_1273 : (Jvm.Cond.laysFinal "PennyMoreModel" "PennyMoreModel" "aways" "[I") ∈ mm_G := mm_gi_5 (i := 132) rfl rfl
theorem gw_1274 : (Jvm.Cond.laysFinal "PennyMoreModel" "PennyMoreModel" "gained" "[I") ∈ mm_G := mm_gi_5 (i := 134) rfl rfl
theorem gw_1275 : (Jvm.Cond.laysFinal "PennyMoreModel" "PennyMoreModel" "tells" "[I") ∈ mm_G := mm_gi_5 (i := 136) rfl rfl
theorem gw_1276 : (Jvm.Cond.lays "PennyMoreModel" "PennyMoreModel" "inRow" "I") ∈ mm_G := mm_gi_5 (i := 138) rfl rfl
theorem gw_1277 : (Jvm.Cond.laysFinal "PennyMoreModel" "PennyMoreModel" "row" "[I") ∈ mm_G := mm_gi_5 (i := 140) rfl rfl
theorem gw_1278 : (Jvm.Cond.lays "PennyMoreModel" "PennyMoreModel" "price" "I") ∈ mm_G := mm_gi_5 (i := 142) rfl rfl
theorem gw_1279 : (Jvm.Cond.lays "PennyMoreModel" "PennyMoreModel" "loaves" "I") ∈ mm_G := mm_gi_5 (i := 144) rfl rfl
theorem gw_1280 : (Jvm.Cond.lays "PennyMoreModel" "PennyMoreModel" "till" "I") ∈ mm_G := mm_gi_5 (i := 146) rfl rfl
theorem gw_1281 : (Jvm.Cond.lays "PennyMoreModel" "PennyMoreModel" "turns" "I") ∈ mm_G := mm_gi_5 (i := 148) rfl rfl
theorem gw_1282 : (Jvm.Cond.lays "PennyMoreModel" "PennyMoreModel" "odds" "I") ∈ mm_G := mm_gi_5 (i := 150) rfl rfl
theorem gw_1283 : (Jvm.Cond.lays "PennyMoreModel" "PennyMoreModel" "filmed" "I") ∈ mm_G := mm_gi_5 (i := 152) rfl rfl
theorem gw_1284 : (Jvm.Cond.laysFinal "PennyMoreModel" "PennyMoreModel" "film" "[I") ∈ mm_G := mm_gi_5 (i := 154) rfl rfl
theorem gw_1285 : (Jvm.Cond.lays "PennyMoreModel" "PennyMoreModel" "shops" "I") ∈ mm_G := mm_gi_5 (i := 156) rfl rfl
theorem gw_1286 : (Jvm.Cond.lays "PennyMoreModel" "PennyMoreModel" "holding" "I") ∈ mm_G := mm_gi_5 (i := 158) rfl rfl
theorem gw_1287 : (Jvm.Cond.laysFinal "PennyMoreModel" "PennyMoreModel" "clauses" "[I") ∈ mm_G := mm_gi_5 (i := 160) rfl rfl
theorem gw_1288 : (Jvm.Cond.laysFinal "PennyMoreModel" "PennyMoreModel" "clauseWord" "[I") ∈ mm_G := mm_gi_5 (i := 162) rfl rfl
theorem gw_1289 : (Jvm.Cond.laysFinal "PennyMoreModel" "PennyMoreModel" "clauseN" "[I") ∈ mm_G := mm_gi_5 (i := 164) rfl rfl
theorem gw_1290 : (Jvm.Cond.laysFinal "PennyMoreModel" "PennyMoreModel" "clauseFrom" "[I") ∈ mm_G := mm_gi_5 (i := 166) rfl rfl
theorem gw_1291 : (Jvm.Cond.laysFinal "PennyMoreModel" "PennyMoreModel" "clauseTo" "[I") ∈ mm_G := mm_gi_5 (i := 168) rfl rfl
theorem gw_1292 : (Jvm.Cond.laysFinal "PennyMoreModel" "PennyMoreModel" "codes" "[I") ∈ mm_G := mm_gi_5 (i := 170) rfl rfl
theorem gw_1293 : (Jvm.Cond.laysFinal "PennyMoreModel" "PennyMoreModel" "text" "[I") ∈ mm_G := mm_gi_5 (i := 172) rfl rfl
theorem gw_1294 : (Jvm.Cond.lays "PennyMoreModel" "PennyMoreModel" "written" "I") ∈ mm_G := mm_gi_5 (i := 174) rfl rfl
theorem gw_1295 : (Jvm.Cond.lays "PennyMoreModel" "PennyMoreModel" "feeFor" "I") ∈ mm_G := mm_gi_5 (i := 176) rfl rfl
theorem gw_1296 : (Jvm.Cond.lays "PennyMoreModel" "PennyMoreModel" "ran" "I") ∈ mm_G := mm_gi_5 (i := 178) rfl rfl
theorem gw_1297 : (Jvm.Cond.laysFinal "PennyMoreModel" "PennyMoreModel" "trace" "[I") ∈ mm_G := mm_gi_5 (i := 180) rfl rfl
theorem gw_1298 : (Jvm.Cond.laysFinal "PennyMoreModel" "PennyMoreModel" "tapeSort" "[I") ∈ mm_G := mm_gi_5 (i := 182) rfl rfl
theorem gw_1299 : (Jvm.Cond.laysFinal "PennyMoreModel" "PennyMoreModel" "tapeSize" "[I") ∈ mm_G := mm_gi_5 (i := 184) rfl rfl
theorem gw_1300 : (Jvm.Cond.laysFinal "PennyMoreModel" "PennyMoreModel" "items" "[J") ∈ mm_G := mm_gi_5 (i := 186) rfl rfl
theorem gw_1301 : (Jvm.Cond.laysFinal "PennyMoreModel" "PennyMoreModel" "words" "[I") ∈ mm_G := mm_gi_5 (i := 188) rfl rfl
theorem gw_1302 : (Jvm.Cond.laysFinal "PennyMoreModel" "PennyMoreModel" "wordLong" "[I") ∈ mm_G := mm_gi_5 (i := 190) rfl rfl
theorem gw_1303 : (Jvm.Cond.laysFinal "PennyMoreModel" "PennyMoreModel" "letters" "[I") ∈ mm_G := mm_gi_5 (i := 192) rfl rfl
theorem gw_1304 : (Jvm.Cond.lays "PennyMoreModel" "PennyMoreModel" "at0" "I") ∈ mm_G := mm_gi_5 (i := 194) rfl rfl
theorem gw_1305 : (Jvm.Cond.lays "PennyMoreModel" "PennyMoreModel" "coded" "I") ∈ mm_G := mm_gi_5 (i := 196) rfl rfl
theorem gw_1306 : (Jvm.Cond.laysFinal "PennyMoreModel" "PennyMoreModel" "waits" "[I") ∈ mm_G := mm_gi_5 (i := 198) rfl rfl
theorem gw_1307 : (Jvm.Cond.lays "PennyMoreModel" "PennyMoreModel" "waitMany" "I") ∈ mm_G := mm_gi_5 (i := 200) rfl rfl
theorem gw_1308 : (Jvm.Cond.lays "PennyMoreModel" "PennyMoreModel" "opened" "I") ∈ mm_G := mm_gi_5 (i := 202) rfl rfl
theorem gw_1309 : (Jvm.Cond.laysFinal "PennyMoreModel" "PennyMoreModel" "stack" "[Z") ∈ mm_G := mm_gi_5 (i := 204) rfl rfl
theorem gw_1310 : (Jvm.Cond.lays "PennyMoreModel" "PennyMoreModel" "bought" "I") ∈ mm_G := mm_gi_5 (i := 206) rfl rfl
theorem gw_1311 : (Jvm.Cond.lays "PennyMoreModel" "PennyMoreModel" "refused" "I") ∈ mm_G := mm_gi_5 (i := 208) rfl rfl
theorem gw_1312 : (Jvm.Cond.laysFinal "PennyMoreModel" "PennyMoreModel" "keptRow" "[I") ∈ mm_G := mm_gi_5 (i := 210) rfl rfl
theorem gw_1313 : (Jvm.Cond.laysFinal "PennyMoreModel" "PennyMoreModel" "keptAways" "[I") ∈ mm_G := mm_gi_5 (i := 212) rfl rfl
theorem gw_1314 : (Jvm.Cond.laysFinal "PennyMoreModel" "PennyMoreModel" "keptGained" "[I") ∈ mm_G := mm_gi_5 (i := 214) rfl rfl
theorem gw_1315 : (Jvm.Cond.lays "PennyMoreModel" "PennyMoreModel" "keptIn" "I") ∈ mm_G := mm_gi_5 (i := 216) rfl rfl
theorem gw_1316 : (Jvm.Cond.lays "PennyMoreModel" "PennyMoreModel" "keptPrice" "I") ∈ mm_G := mm_gi_5 (i := 218) rfl rfl
theorem gw_1317 : (Jvm.Cond.lays "PennyMoreModel" "PennyMoreModel" "keptLoaves" "I") ∈ mm_G := mm_gi_5 (i := 220) rfl rfl
theorem gw_1318 : (Jvm.Cond.lays "PennyMoreModel" "PennyMoreModel" "keptTill" "I") ∈ mm_G := mm_gi_5 (i := 222) rfl rfl
theorem gw_1319 : (Jvm.Cond.lays "PennyMoreModel" "PennyMoreModel" "keptTurns" "I") ∈ mm_G := mm_gi_5 (i := 224) rfl rfl
theorem gw_1320 : (Jvm.Cond.laysFinal "PennyMoreModel" "PennyMoreModel" "sorted" "[I") ∈ mm_G := mm_gi_5 (i := 226) rfl rfl
theorem gw_1321 : (Jvm.Cond.lays "PennyMoreModel" "PennyMoreModel" "sureAbove" "J") ∈ mm_G := mm_gi_5 (i := 228) rfl rfl
theorem gw_1322 : (Jvm.Cond.lays "PennyMoreModel" "PennyMoreModel" "tooLong" "Z") ∈ mm_G := mm_gi_5 (i := 230) rfl rfl
theorem gw_1323 : (Jvm.Cond.laysFinal "PennyMoreModel" "PennyMoreModel" "deepRow" "[I") ∈ mm_G := mm_gi_5 (i := 232) rfl rfl
theorem gw_1324 : (Jvm.Cond.laysFinal "PennyMoreModel" "PennyMoreModel" "deepAways" "[I") ∈ mm_G := mm_gi_5 (i := 234) rfl rfl
theorem gw_1325 : (Jvm.Cond.laysFinal "PennyMoreModel" "PennyMoreModel" "deepGained" "[I") ∈ mm_G := mm_gi_5 (i := 236) rfl rfl
theorem gw_1326 : (Jvm.Cond.laysFinal "PennyMoreModel" "PennyMoreModel" "deepNumbers" "[I") ∈ mm_G := mm_gi_5 (i := 238) rfl rfl
theorem gw_1327 : (Jvm.Cond.lays "PennyMoreModel" "PennyMoreModel" "hasImage" "Z") ∈ mm_G := mm_gi_6 (i := 0) rfl rfl
theorem gw_1328 : (Jvm.Cond.lays "PennyMoreModel" "PennyMoreModel" "imageBuyers" "I") ∈ mm_G := mm_gi_6 (i := 2) rfl rfl
theorem gw_1329 : (Jvm.Cond.lays "PennyMoreModel" "PennyMoreModel" "imageOdds" "I") ∈ mm_G := mm_gi_6 (i := 4) rfl rfl
theorem gw_1330 : (Jvm.Cond.lays "PennyMoreModel" "PennyMoreModel" "imageFilmed" "I") ∈ mm_G := mm_gi_6 (i := 6) rfl rfl
theorem gw_1331 : (Jvm.Cond.lays "PennyMoreModel" "PennyMoreModel" "imageHolding" "I") ∈ mm_G := mm_gi_6 (i := 8) rfl rfl
theorem gw_1332 : (Jvm.Cond.laysFinal "PennyMoreModel" "PennyMoreModel" "imageKind" "[I") ∈ mm_G := mm_gi_6 (i := 10) rfl rfl
theorem gw_1333 : (Jvm.Cond.laysFinal "PennyMoreModel" "PennyMoreModel" "imageNumber" "[I") ∈ mm_G := mm_gi_6 (i := 12) rfl rfl
theorem gw_1334 : (Jvm.Cond.laysFinal "PennyMoreModel" "PennyMoreModel" "imageWorth" "[I") ∈ mm_G := mm_gi_6 (i := 14) rfl rfl
theorem gw_1335 : (Jvm.Cond.laysFinal "PennyMoreModel" "PennyMoreModel" "imageFriend" "[I") ∈ mm_G := mm_gi_6 (i := 16) rfl rfl
theorem gw_1336 : (Jvm.Cond.laysFinal "PennyMoreModel" "PennyMoreModel" "imageAways" "[I") ∈ mm_G := mm_gi_6 (i := 18) rfl rfl
theorem gw_1337 : (Jvm.Cond.laysFinal "PennyMoreModel" "PennyMoreModel" "imageGained" "[I") ∈ mm_G := mm_gi_6 (i := 20) rfl rfl
theorem gw_1338 : (Jvm.Cond.laysFinal "PennyMoreModel" "PennyMoreModel" "imageTells" "[I") ∈ mm_G := mm_gi_6 (i := 22) rfl rfl
theorem gw_1339 : (Jvm.Cond.laysFinal "PennyMoreModel" "PennyMoreModel" "imageRow" "[I") ∈ mm_G := mm_gi_6 (i := 24) rfl rfl
theorem gw_1340 : (Jvm.Cond.laysFinal "PennyMoreModel" "PennyMoreModel" "imageNumbers" "[I") ∈ mm_G := mm_gi_6 (i := 26) rfl rfl
theorem gw_1341 : (Jvm.Cond.laysFinal "PennyMoreModel" "PennyMoreModel" "imageFilm" "[I") ∈ mm_G := mm_gi_6 (i := 28) rfl rfl
theorem gw_1342 : (Jvm.Cond.lays "PennyMoreModel" "PennyMoreModel" "acting" "I") ∈ mm_G := mm_gi_6 (i := 30) rfl rfl
theorem gw_1343 : (Jvm.Cond.laysFinal "PennyMoreModel" "PennyMoreModel" "shifted" "[J") ∈ mm_G := mm_gi_6 (i := 32) rfl rfl
theorem gw_1344 : (Jvm.Cond.classLink "PennyMore$Day" (9 : Nat) "PennyMore$Buyer") ∈ mm_G := mm_gi_1 (i := 89) rfl rfl
theorem gw_1345 : (Jvm.Cond.arrayClass Jvm.ClassFile.FieldType.int) ∈ mm_G := mm_gi_1 (i := 82) rfl rfl
theorem gw_1346 : (Jvm.Cond.arrayClass Jvm.ClassFile.FieldType.long) ∈ mm_G := mm_gi_1 (i := 219) rfl rfl
theorem gw_1347 : (Jvm.Cond.arrayClass Jvm.ClassFile.FieldType.boolean) ∈ mm_G := mm_gi_6 (i := 35) rfl rfl
theorem gw_1348 : (Jvm.Cond.constant "PennyMore" (123 : Nat) (-100001 : Int32)) ∈ mm_G := mm_gi_2 (i := 186) rfl rfl
theorem gw_1349 : (Jvm.Cond.constant "PennyMore" (254 : Nat) (-100003 : Int32)) ∈ mm_G := mm_gi_4 (i := 100) rfl rfl
theorem gw_1350 : (Jvm.Cond.constant "PennyMoreModel" (183 : Nat) (-100001 : Int32)) ∈ mm_G := mm_gi_6 (i := 79) rfl rfl
theorem gw_1351 : (Jvm.Cond.constant "PennyMoreModel" (335 : Nat) (-100003 : Int32)) ∈ mm_G := mm_gi_7 (i := 26) rfl rfl
theorem gw_1352 : (Jvm.Cond.constantLong "PennyMore" (224 : Nat) (-9223372036854775808 : Int64)) ∈ mm_G := mm_gi_4 (i := 75) rfl rfl
theorem gw_1353 : (Jvm.Cond.constantLong "PennyMoreModel" (329 : Nat) (-9223372036854775808 : Int64)) ∈ mm_G := mm_gi_7 (i := 10) rfl rfl
theorem gw_1354 : (Jvm.Cond.constantLong "PennyMoreModel" (354 : Nat) (10 : Int64)) ∈ mm_G := mm_gi_7 (i := 48) rfl rfl
theorem gw_1355 : (Jvm.Cond.constantLong "PennyMoreModel" (363 : Nat) (1000000000000 : Int64)) ∈ mm_G := mm_gi_7 (i := 39) rfl rfl
theorem gw_1356 : (Jvm.Cond.constantLong "PennyMoreLaw" (147 : Nat) (4294967295 : Int64)) ∈ mm_G := mm_gi_7 (i := 131) rfl rfl
theorem gw_1357 : (Jvm.Cond.fieldLink "java/lang/String" (38 : Nat) "java/lang/String" "COMPACT_STRINGS" "Z") ∈ mm_G := mm_gi_3 (i := 15) rfl rfl
theorem gw_1358 : (Jvm.Cond.fieldLink "java/lang/String" (1053 : Nat) "jdk/internal/util/Preconditions" "SIOOBE_FORMATTER" "Ljava/util/function/BiFunction;") ∈ mm_G := mm_gi_3 (i := 31) rfl rfl
theorem gw_1359 : (Jvm.Cond.fieldLink "java/lang/String" (9 : Nat) "java/lang/String" "value" "[B") ∈ mm_G := mm_gi_7 (i := 145) rfl rfl
theorem gw_1360 : (Jvm.Cond.fieldLink "java/lang/String" (15 : Nat) "java/lang/String" "coder" "B") ∈ mm_G := mm_gi_7 (i := 146) rfl rfl
