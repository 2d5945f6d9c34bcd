theorem gw_700 : (Jvm.Cond.instanceMethod ({ cls := "PennyMore$Tape", name := "holdsNothing", desc := "()Z" } : Jvm.MethodName)) ∈ mm_G := mm_gi_4 (i := 134) rfl rfl
theorem gw_701 : (Jvm.Cond.selects "PennyMore$Tape" ({ cls := "PennyMore$Tape", name := "holdsNothing", desc := "()Z" } : Jvm.MethodName) ({ cls := "PennyMore$Tape", name := "holdsNothing", desc := "()Z" } : Jvm.MethodName)) ∈ mm_G := mm_gi_4 (i := 135) rfl rfl
theorem gw_702 : (Jvm.Cond.methodLink "PennyMore" (292 : Nat) ({ cls := "PennyMore$Buyer", name := "bids", desc := "(I[I)I" } : Jvm.MethodName)) ∈ mm_G := mm_gi_4 (i := 149) rfl rfl
theorem gw_703 : (Jvm.Cond.methodLink "PennyMore" (296 : Nat) ({ cls := "PennyMore$Buyer", name := "waits", desc := "(I[I)I" } : Jvm.MethodName)) ∈ mm_G := mm_gi_4 (i := 181) rfl rfl
theorem gw_704 : (Jvm.Cond.sameMethod "PennyMore$Buyer" "PennyMore$Buyer" "tells" "(I[I)I") ∈ mm_G := mm_gi_4 (i := 209) rfl rfl
theorem gw_705 : (Jvm.Cond.instanceMethod ({ cls := "PennyMore$Buyer", name := "tells", desc := "(I[I)I" } : Jvm.MethodName)) ∈ mm_G := mm_gi_4 (i := 207) rfl rfl
theorem gw_706 : (Jvm.Cond.methodLink "PennyMore" (299 : Nat) ({ cls := "PennyMore$Buyer", name := "tells", desc := "(I[I)I" } : Jvm.MethodName)) ∈ mm_G := mm_gi_4 (i := 206) rfl rfl
theorem gw_707 : (Jvm.Cond.selects "PennyMore$Waiting" ({ cls := "PennyMore$Buyer", name := "tells", desc := "(I[I)I" } : Jvm.MethodName) ({ cls := "PennyMore$Buyer", name := "tells", desc := "(I[I)I" } : Jvm.MethodName)) ∈ mm_G := mm_gi_4 (i := 230) rfl rfl
theorem gw_708 : (Jvm.Cond.instanceMethod ({ cls := "PennyMore$Falling", name := "tells", desc := "(I[I)I" } : Jvm.MethodName)) ∈ mm_G := mm_gi_4 (i := 211) rfl rfl
theorem gw_709 : (Jvm.Cond.selects "PennyMore$Told" ({ cls := "PennyMore$Buyer", name := "tells", desc := "(I[I)I" } : Jvm.MethodName) ({ cls := "PennyMore$Falling", name := "tells", desc := "(I[I)I" } : Jvm.MethodName)) ∈ mm_G := mm_gi_4 (i := 229) rfl rfl
theorem gw_710 : (Jvm.Cond.selects "PennyMore$Sure" ({ cls := "PennyMore$Buyer", name := "tells", desc := "(I[I)I" } : Jvm.MethodName) ({ cls := "PennyMore$Buyer", name := "tells", desc := "(I[I)I" } : Jvm.MethodName)) ∈ mm_G := mm_gi_4 (i := 228) rfl rfl
theorem gw_711 : (Jvm.Cond.selects "PennyMore$Plain" ({ cls := "PennyMore$Buyer", name := "tells", desc := "(I[I)I" } : Jvm.MethodName) ({ cls := "PennyMore$Buyer", name := "tells", desc := "(I[I)I" } : Jvm.MethodName)) ∈ mm_G := mm_gi_4 (i := 227) rfl rfl
theorem gw_712 : (Jvm.Cond.instanceMethod ({ cls := "PennyMore$Late", name := "tells", desc := "(I[I)I" } : Jvm.MethodName)) ∈ mm_G := mm_gi_4 (i := 220) rfl rfl
theorem gw_713 : (Jvm.Cond.selects "PennyMore$Late" ({ cls := "PennyMore$Buyer", name := "tells", desc := "(I[I)I" } : Jvm.MethodName) ({ cls := "PennyMore$Late", name := "tells", desc := "(I[I)I" } : Jvm.MethodName)) ∈ mm_G := mm_gi_4 (i := 219) rfl rfl
theorem gw_714 : (Jvm.Cond.selects "PennyMore$Falling" ({ cls := "PennyMore$Buyer", name := "tells", desc := "(I[I)I" } : Jvm.MethodName) ({ cls := "PennyMore$Falling", name := "tells", desc := "(I[I)I" } : Jvm.MethodName)) ∈ mm_G := mm_gi_4 (i := 210) rfl rfl
theorem gw_715 : (Jvm.Cond.selects "PennyMore$Buyer" ({ cls := "PennyMore$Buyer", name := "tells", desc := "(I[I)I" } : Jvm.MethodName) ({ cls := "PennyMore$Buyer", name := "tells", desc := "(I[I)I" } : Jvm.MethodName)) ∈ mm_G := mm_gi_4 (i := 208) rfl rfl
theorem gw_716 : (Jvm.Cond.methodLink "PennyMore" (305 : Nat) ({ cls := "PennyMore$Tape", name := "become", desc := "(II)V" } : Jvm.MethodName)) ∈ mm_G := mm_gi_5 (i := 12) rfl rfl
theorem gw_717 : (Jvm.Cond.instanceMethod ({ cls := "PennyMore$Tape", name := "become", desc := "(II)V" } : Jvm.MethodName)) ∈ mm_G := mm_gi_5 (i := 13) rfl rfl
theorem gw_718 : (Jvm.Cond.selects "PennyMore$Tape" ({ cls := "PennyMore$Tape", name := "become", desc := "(II)V" } : Jvm.MethodName) ({ cls := "PennyMore$Tape", name := "become", desc := "(II)V" } : Jvm.MethodName)) ∈ mm_G := mm_gi_5 (i := 14) rfl rfl
theorem gw_719 : (Jvm.Cond.methodLink "PennyMore" (309 : Nat) ({ cls := "PennyMore$Tape", name := "hasPlace", desc := "(I)Z" } : Jvm.MethodName)) ∈ mm_G := mm_gi_5 (i := 20) rfl rfl
theorem gw_720 : (Jvm.Cond.instanceMethod ({ cls := "PennyMore$Tape", name := "hasPlace", desc := "(I)Z" } : Jvm.MethodName)) ∈ mm_G := mm_gi_5 (i := 21) rfl rfl
theorem gw_721 : (Jvm.Cond.selects "PennyMore$Tape" ({ cls := "PennyMore$Tape", name := "hasPlace", desc := "(I)Z" } : Jvm.MethodName) ({ cls := "PennyMore$Tape", name := "hasPlace", desc := "(I)Z" } : Jvm.MethodName)) ∈ mm_G := mm_gi_5 (i := 22) rfl rfl
theorem gw_722 : (Jvm.Cond.methodLink "PennyMore" (312 : Nat) ({ cls := "PennyMore$Tape", name := "narrowed", desc := "(J)J" } : Jvm.MethodName)) ∈ mm_G := mm_gi_5 (i := 24) rfl rfl
theorem gw_723 : (Jvm.Cond.instanceMethod ({ cls := "PennyMore$Tape", name := "narrowed", desc := "(J)J" } : Jvm.MethodName)) ∈ mm_G := mm_gi_5 (i := 25) rfl rfl
theorem gw_724 : (Jvm.Cond.selects "PennyMore$Tape" ({ cls := "PennyMore$Tape", name := "narrowed", desc := "(J)J" } : Jvm.MethodName) ({ cls := "PennyMore$Tape", name := "narrowed", desc := "(J)J" } : Jvm.MethodName)) ∈ mm_G := mm_gi_5 (i := 26) rfl rfl
theorem gw_725 : (Jvm.Cond.methodLink "PennyMore" (316 : Nat) ({ cls := "PennyMore$Tape", name := "hasStretch", desc := "(II)Z" } : Jvm.MethodName)) ∈ mm_G := mm_gi_5 (i := 36) rfl rfl
theorem gw_726 : (Jvm.Cond.instanceMethod ({ cls := "PennyMore$Tape", name := "hasStretch", desc := "(II)Z" } : Jvm.MethodName)) ∈ mm_G := mm_gi_5 (i := 37) rfl rfl
theorem gw_727 : (Jvm.Cond.selects "PennyMore$Tape" ({ cls := "PennyMore$Tape", name := "hasStretch", desc := "(II)Z" } : Jvm.MethodName) ({ cls := "PennyMore$Tape", name := "hasStretch", desc := "(II)Z" } : Jvm.MethodName)) ∈ mm_G := mm_gi_5 (i := 38) rfl rfl
theorem gw_728 : (Jvm.Cond.methodLink "PennyMore" (348 : Nat) ({ cls := "PennyMore$Day", name := "carryOut", desc := "(I)V" } : Jvm.MethodName)) ∈ mm_G := mm_gi_4 (i := 33) rfl rfl
theorem gw_729 : (Jvm.Cond.methodLink "PennyMore" (351 : Nat) ({ cls := "PennyMore$Day", name := "gainedByAll", desc := "()I" } : Jvm.MethodName)) ∈ mm_G := mm_gi_4 (i := 34) rfl rfl
theorem gw_730 : (Jvm.Cond.instanceMethod ({ cls := "PennyMore$Day", name := "gainedByAll", desc := "()I" } : Jvm.MethodName)) ∈ mm_G := mm_gi_4 (i := 35) rfl rfl
theorem gw_731 : (Jvm.Cond.selects "PennyMore$Day" ({ cls := "PennyMore$Day", name := "gainedByAll", desc := "()I" } : Jvm.MethodName) ({ cls := "PennyMore$Day", name := "gainedByAll", desc := "()I" } : Jvm.MethodName)) ∈ mm_G := mm_gi_4 (i := 36) rfl rfl
theorem gw_732 : (Jvm.Cond.methodLink "PennyMore" (354 : Nat) ({ cls := "PennyMore", name := "swapInLineup", desc := "(II)V" } : Jvm.MethodName)) ∈ mm_G := mm_gi_4 (i := 59) rfl rfl
theorem gw_733 : (Jvm.Cond.instanceMethod ({ cls := "PennyMore", name := "swapInLineup", desc := "(II)V" } : Jvm.MethodName)) ∈ mm_G := mm_gi_4 (i := 61) rfl rfl
theorem gw_734 : (Jvm.Cond.selects "PennyMore" ({ cls := "PennyMore", name := "swapInLineup", desc := "(II)V" } : Jvm.MethodName) ({ cls := "PennyMore", name := "swapInLineup", desc := "(II)V" } : Jvm.MethodName)) ∈ mm_G := mm_gi (i := 17) rfl rfl
theorem gw_735 : (Jvm.Cond.methodLink "PennyMoreModel" (169 : Nat) ({ cls := "PennyMoreModel", name := "isBuyer", desc := "(I)Z" } : Jvm.MethodName)) ∈ mm_G := mm_gi_6 (i := 47) rfl rfl
theorem gw_736 : (Jvm.Cond.instanceMethod ({ cls := "PennyMoreModel", name := "isBuyer", desc := "(I)Z" } : Jvm.MethodName)) ∈ mm_G := mm_gi_6 (i := 49) rfl rfl
theorem gw_737 : (Jvm.Cond.selects "PennyMoreModel" ({ cls := "PennyMoreModel", name := "isBuyer", desc := "(I)Z" } : Jvm.MethodName) ({ cls := "PennyMoreModel", name := "isBuyer", desc := "(I)Z" } : Jvm.MethodName)) ∈ mm_G := mm_gi (i := 23) rfl rfl
theorem gw_738 : (Jvm.Cond.methodLink "PennyMoreModel" (173 : Nat) ({ cls := "PennyMoreModel", name := "placeOf", desc := "(I)I" } : Jvm.MethodName)) ∈ mm_G := mm_gi_6 (i := 51) rfl rfl
theorem gw_739 : (Jvm.Cond.instanceMethod ({ cls := "PennyMoreModel", name := "placeOf", desc := "(I)I" } : Jvm.MethodName)) ∈ mm_G := mm_gi_6 (i := 53) rfl rfl
theorem gw_740 : (Jvm.Cond.selects "PennyMoreModel" ({ cls := "PennyMoreModel", name := "placeOf", desc := "(I)I" } : Jvm.MethodName) ({ cls := "PennyMoreModel", name := "placeOf", desc := "(I)I" } : Jvm.MethodName)) ∈ mm_G := mm_gi (i := 24) rfl rfl
theorem gw_741 : (Jvm.Cond.methodLink "PennyMoreModel" (177 : Nat) ({ cls := "PennyMoreModel", name := "valueOf", desc := "(I)I" } : Jvm.MethodName)) ∈ mm_G := mm_gi_6 (i := 55) rfl rfl
theorem gw_742 : (Jvm.Cond.instanceMethod ({ cls := "PennyMoreModel", name := "valueOf", desc := "(I)I" } : Jvm.MethodName)) ∈ mm_G := mm_gi_6 (i := 57) rfl rfl
theorem gw_743 : (Jvm.Cond.selects "PennyMoreModel" ({ cls := "PennyMoreModel", name := "valueOf", desc := "(I)I" } : Jvm.MethodName) ({ cls := "PennyMoreModel", name := "valueOf", desc := "(I)I" } : Jvm.MethodName)) ∈ mm_G := mm_gi (i := 25) rfl rfl
theorem gw_744 : (Jvm.Cond.methodLink "PennyMoreModel" (180 : Nat) ({ cls := "PennyMoreModel", name := "costOf", desc := "(I)I" } : Jvm.MethodName)) ∈ mm_G := mm_gi_6 (i := 71) rfl rfl
theorem gw_745 : (Jvm.Cond.instanceMethod ({ cls := "PennyMoreModel", name := "costOf", desc := "(I)I" } : Jvm.MethodName)) ∈ mm_G := mm_gi_6 (i := 73) rfl rfl
theorem gw_746 : (Jvm.Cond.selects "PennyMoreModel" ({ cls := "PennyMoreModel", name := "costOf", desc := "(I)I" } : Jvm.MethodName) ({ cls := "PennyMoreModel", name := "costOf", desc := "(I)I" } : Jvm.MethodName)) ∈ mm_G := mm_gi (i := 29) rfl rfl
theorem gw_747 : (Jvm.Cond.methodLink "PennyMoreModel" (190 : Nat) ({ cls := "PennyMoreModel", name := "sign", desc := "()I" } : Jvm.MethodName)) ∈ mm_G := mm_gi_6 (i := 116) rfl rfl
theorem gw_748 : (Jvm.Cond.instanceMethod ({ cls := "PennyMoreModel", name := "sign", desc := "()I" } : Jvm.MethodName)) ∈ mm_G := mm_gi_6 (i := 118) rfl rfl
theorem gw_749 : (Jvm.Cond.selects "PennyMoreModel" ({ cls := "PennyMoreModel", name := "sign", desc := "()I" } : Jvm.MethodName) ({ cls := "PennyMoreModel", name := "sign", desc := "()I" } : Jvm.MethodName)) ∈ mm_G := mm_gi (i := 33) rfl rfl
theorem gw_750 : (Jvm.Cond.methodLink "PennyMoreModel" (197 : Nat) ({ cls := "PennyMoreModel", name := "goesBy", desc := "(I)Z" } : Jvm.MethodName)) ∈ mm_G := mm_gi_6 (i := 120) rfl rfl
theorem gw_751 : (Jvm.Cond.instanceMethod ({ cls := "PennyMoreModel", name := "goesBy", desc := "(I)Z" } : Jvm.MethodName)) ∈ mm_G := mm_gi_6 (i := 122) rfl rfl
theorem gw_752 : (Jvm.Cond.selects "PennyMoreModel" ({ cls := "PennyMoreModel", name := "goesBy", desc := "(I)Z" } : Jvm.MethodName) ({ cls := "PennyMoreModel", name := "goesBy", desc := "(I)Z" } : Jvm.MethodName)) ∈ mm_G := mm_gi (i := 34) rfl rfl
theorem gw_753 : (Jvm.Cond.methodLink "PennyMoreModel" (203 : Nat) ({ cls := "PennyMoreModel", name := "numberRead", desc := "()I" } : Jvm.MethodName)) ∈ mm_G := mm_gi_6 (i := 124) rfl rfl
theorem gw_754 : (Jvm.Cond.instanceMethod ({ cls := "PennyMoreModel", name := "numberRead", desc := "()I" } : Jvm.MethodName)) ∈ mm_G := mm_gi_6 (i := 126) rfl rfl
theorem gw_755 : (Jvm.Cond.selects "PennyMoreModel" ({ cls := "PennyMoreModel", name := "numberRead", desc := "()I" } : Jvm.MethodName) ({ cls := "PennyMoreModel", name := "numberRead", desc := "()I" } : Jvm.MethodName)) ∈ mm_G := mm_gi (i := 35) rfl rfl
theorem gw_756 : (Jvm.Cond.methodLink "PennyMoreModel" (206 : Nat) ({ cls := "PennyMoreModel", name := "codes", desc := "(I)V" } : Jvm.MethodName)) ∈ mm_G := mm_gi_6 (i := 143) rfl rfl
theorem gw_757 : (Jvm.Cond.instanceMethod ({ cls := "PennyMoreModel", name := "codes", desc := "(I)V" } : Jvm.MethodName)) ∈ mm_G := mm_gi_6 (i := 145) rfl rfl
theorem gw_758 : (Jvm.Cond.selects "PennyMoreModel" ({ cls := "PennyMoreModel", name := "codes", desc := "(I)V" } : Jvm.MethodName) ({ cls := "PennyMoreModel", name := "codes", desc := "(I)V" } : Jvm.MethodName)) ∈ mm_G := mm_gi (i := 39) rfl rfl
theorem gw_759 : (Jvm.Cond.methodLink "PennyMoreModel" (215 : Nat) ({ cls := "PennyMoreModel", name := "opens", desc := "(I)Z" } : Jvm.MethodName)) ∈ mm_G := mm_gi_6 (i := 135) rfl rfl
theorem gw_760 : (Jvm.Cond.instanceMethod ({ cls := "PennyMoreModel", name := "opens", desc := "(I)Z" } : Jvm.MethodName)) ∈ mm_G := mm_gi_6 (i := 137) rfl rfl
theorem gw_761 : (Jvm.Cond.selects "PennyMoreModel" ({ cls := "PennyMoreModel", name := "opens", desc := "(I)Z" } : Jvm.MethodName) ({ cls := "PennyMoreModel", name := "opens", desc := "(I)Z" } : Jvm.MethodName)) ∈ mm_G := mm_gi (i := 37) rfl rfl
theorem gw_762 : (Jvm.Cond.methodLink "PennyMoreModel" (218 : Nat) ({ cls := "PennyMoreModel", name := "testRead", desc := "()Z" } : Jvm.MethodName)) ∈ mm_G := mm_gi_6 (i := 139) rfl rfl
theorem gw_763 : (Jvm.Cond.instanceMethod ({ cls := "PennyMoreModel", name := "testRead", desc := "()Z" } : Jvm.MethodName)) ∈ mm_G := mm_gi_6 (i := 141) rfl rfl
theorem gw_764 : (Jvm.Cond.selects "PennyMoreModel" ({ cls := "PennyMoreModel", name := "testRead", desc := "()Z" } : Jvm.MethodName) ({ cls := "PennyMoreModel", name := "testRead", desc := "()Z" } : Jvm.MethodName)) ∈ mm_G := mm_gi (i := 38) rfl rfl
theorem gw_765 : (Jvm.Cond.methodLink "PennyMoreModel" (222 : Nat) ({ cls := "PennyMoreModel", name := "noMoreNots", desc := "()V" } : Jvm.MethodName)) ∈ mm_G := mm_gi_6 (i := 147) rfl rfl
theorem gw_766 : (Jvm.Cond.instanceMethod ({ cls := "PennyMoreModel", name := "noMoreNots", desc := "()V" } : Jvm.MethodName)) ∈ mm_G := mm_gi_6 (i := 149) rfl rfl
theorem gw_767 : (Jvm.Cond.selects "PennyMoreModel" ({ cls := "PennyMoreModel", name := "noMoreNots", desc := "()V" } : Jvm.MethodName) ({ cls := "PennyMoreModel", name := "noMoreNots", desc := "()V" } : Jvm.MethodName)) ∈ mm_G := mm_gi (i := 40) rfl rfl
theorem gw_768 : (Jvm.Cond.methodLink "PennyMoreModel" (225 : Nat) ({ cls := "PennyMoreModel", name := "unwinds", desc := "(I)V" } : Jvm.MethodName)) ∈ mm_G := mm_gi_6 (i := 151) rfl rfl
theorem gw_769 : (Jvm.Cond.instanceMethod ({ cls := "PennyMoreModel", name := "unwinds", desc := "(I)V" } : Jvm.MethodName)) ∈ mm_G := mm_gi_6 (i := 153) rfl rfl
theorem gw_770 : (Jvm.Cond.selects "PennyMoreModel" ({ cls := "PennyMoreModel", name := "unwinds", desc := "(I)V" } : Jvm.MethodName) ({ cls := "PennyMoreModel", name := "unwinds", desc := "(I)V" } : Jvm.MethodName)) ∈ mm_G := mm_gi (i := 41) rfl rfl
theorem gw_771 : (Jvm.Cond.methodLink "PennyMoreModel" (228 : Nat) ({ cls := "PennyMoreModel", name := "wordRead", desc := "()I" } : Jvm.MethodName)) ∈ mm_G := mm_gi_6 (i := 112) rfl rfl
theorem gw_772 : (Jvm.Cond.instanceMethod ({ cls := "PennyMoreModel", name := "wordRead", desc := "()I" } : Jvm.MethodName)) ∈ mm_G := mm_gi_6 (i := 114) rfl rfl
theorem gw_773 : (Jvm.Cond.selects "PennyMoreModel" ({ cls := "PennyMoreModel", name := "wordRead", desc := "()I" } : Jvm.MethodName) ({ cls := "PennyMoreModel", name := "wordRead", desc := "()I" } : Jvm.MethodName)) ∈ mm_G := mm_gi (i := 32) rfl rfl
theorem gw_774 : (Jvm.Cond.methodLink "PennyMoreModel" (231 : Nat) ({ cls := "PennyMoreModel", name := "eRead", desc := "()Z" } : Jvm.MethodName)) ∈ mm_G := mm_gi_6 (i := 131) rfl rfl
theorem gw_775 : (Jvm.Cond.instanceMethod ({ cls := "PennyMoreModel", name := "eRead", desc := "()Z" } : Jvm.MethodName)) ∈ mm_G := mm_gi_6 (i := 133) rfl rfl
theorem gw_776 : (Jvm.Cond.selects "PennyMoreModel" ({ cls := "PennyMoreModel", name := "eRead", desc := "()Z" } : Jvm.MethodName) ({ cls := "PennyMoreModel", name := "eRead", desc := "()Z" } : Jvm.MethodName)) ∈ mm_G := mm_gi (i := 36) rfl rfl
theorem gw_777 : (Jvm.Cond.methodLink "PennyMoreModel" (234 : Nat) ({ cls := "PennyMoreModel", name := "clauseRead", desc := "()Z" } : Jvm.MethodName)) ∈ mm_G := mm_gi_6 (i := 108) rfl rfl
theorem gw_778 : (Jvm.Cond.instanceMethod ({ cls := "PennyMoreModel", name := "clauseRead", desc := "()Z" } : Jvm.MethodName)) ∈ mm_G := mm_gi_6 (i := 110) rfl rfl
theorem gw_779 : (Jvm.Cond.selects "PennyMoreModel" ({ cls := "PennyMoreModel", name := "clauseRead", desc := "()Z" } : Jvm.MethodName) ({ cls := "PennyMoreModel", name := "clauseRead", desc := "()Z" } : Jvm.MethodName)) ∈ mm_G := mm_gi (i := 31) rfl rfl
theorem gw_780 : (Jvm.Cond.methodLink "PennyMoreModel" (240 : Nat) ({ cls := "PennyMoreModel", name := "shopRead", desc := "()I" } : Jvm.MethodName)) ∈ mm_G := mm_gi_6 (i := 104) rfl rfl
theorem gw_781 : (Jvm.Cond.instanceMethod ({ cls := "PennyMoreModel", name := "shopRead", desc := "()I" } : Jvm.MethodName)) ∈ mm_G := mm_gi_6 (i := 106) rfl rfl
theorem gw_782 : (Jvm.Cond.selects "PennyMoreModel" ({ cls := "PennyMoreModel", name := "shopRead", desc := "()I" } : Jvm.MethodName) ({ cls := "PennyMoreModel", name := "shopRead", desc := "()I" } : Jvm.MethodName)) ∈ mm_G := mm_gi (i := 30) rfl rfl
theorem gw_783 : (Jvm.Cond.methodLink "PennyMoreModel" (243 : Nat) ({ cls := "PennyMoreModel", name := "testOf", desc := "(II)I" } : Jvm.MethodName)) ∈ mm_G := mm_gi_6 (i := 67) rfl rfl
theorem gw_784 : (Jvm.Cond.instanceMethod ({ cls := "PennyMoreModel", name := "testOf", desc := "(II)I" } : Jvm.MethodName)) ∈ mm_G := mm_gi_6 (i := 69) rfl rfl
theorem gw_785 : (Jvm.Cond.selects "PennyMoreModel" ({ cls := "PennyMoreModel", name := "testOf", desc := "(II)I" } : Jvm.MethodName) ({ cls := "PennyMoreModel", name := "testOf", desc := "(II)I" } : Jvm.MethodName)) ∈ mm_G := mm_gi (i := 28) rfl rfl
theorem gw_786 : (Jvm.Cond.methodLink "PennyMoreModel" (247 : Nat) ({ cls := "PennyMoreModel", name := "doesHold", desc := "(II)Z" } : Jvm.MethodName)) ∈ mm_G := mm_gi_6 (i := 63) rfl rfl
theorem gw_787 : (Jvm.Cond.instanceMethod ({ cls := "PennyMoreModel", name := "doesHold", desc := "(II)Z" } : Jvm.MethodName)) ∈ mm_G := mm_gi_6 (i := 65) rfl rfl
theorem gw_788 : (Jvm.Cond.selects "PennyMoreModel" ({ cls := "PennyMoreModel", name := "doesHold", desc := "(II)Z" } : Jvm.MethodName) ({ cls := "PennyMoreModel", name := "doesHold", desc := "(II)Z" } : Jvm.MethodName)) ∈ mm_G := mm_gi (i := 27) rfl rfl
theorem gw_789 : (Jvm.Cond.methodLink "PennyMoreModel" (251 : Nat) ({ cls := "PennyMoreModel", name := "sumOf", desc := "(II)I" } : Jvm.MethodName)) ∈ mm_G := mm_gi_6 (i := 59) rfl rfl
theorem gw_790 : (Jvm.Cond.instanceMethod ({ cls := "PennyMoreModel", name := "sumOf", desc := "(II)I" } : Jvm.MethodName)) ∈ mm_G := mm_gi_6 (i := 61) rfl rfl
theorem gw_791 : (Jvm.Cond.selects "PennyMoreModel" ({ cls := "PennyMoreModel", name := "sumOf", desc := "(II)I" } : Jvm.MethodName) ({ cls := "PennyMoreModel", name := "sumOf", desc := "(II)I" } : Jvm.MethodName)) ∈ mm_G := mm_gi (i := 26) rfl rfl
theorem gw_792 : (Jvm.Cond.methodLink "PennyMoreModel" (254 : Nat) ({ cls := "PennyMoreModel", name := "lawOf", desc := "(I)I" } : Jvm.MethodName)) ∈ mm_G := mm_gi_6 (i := 159) rfl rfl
theorem gw_793 : (Jvm.Cond.instanceMethod ({ cls := "PennyMoreModel", name := "lawOf", desc := "(I)I" } : Jvm.MethodName)) ∈ mm_G := mm_gi_6 (i := 161) rfl rfl
theorem gw_794 : (Jvm.Cond.selects "PennyMoreModel" ({ cls := "PennyMoreModel", name := "lawOf", desc := "(I)I" } : Jvm.MethodName) ({ cls := "PennyMoreModel", name := "lawOf", desc := "(I)I" } : Jvm.MethodName)) ∈ mm_G := mm_gi (i := 42) rfl rfl
theorem gw_795 : (Jvm.Cond.methodLink "PennyMoreModel" (263 : Nat) ({ cls := "PennyMoreModel", name := "gainOf", desc := "(I)I" } : Jvm.MethodName)) ∈ mm_G := mm_gi_6 (i := 175) rfl rfl
theorem gw_796 : (Jvm.Cond.instanceMethod ({ cls := "PennyMoreModel", name := "gainOf", desc := "(I)I" } : Jvm.MethodName)) ∈ mm_G := mm_gi_6 (i := 177) rfl rfl
theorem gw_797 : (Jvm.Cond.selects "PennyMoreModel" ({ cls := "PennyMoreModel", name := "gainOf", desc := "(I)I" } : Jvm.MethodName) ({ cls := "PennyMoreModel", name := "gainOf", desc := "(I)I" } : Jvm.MethodName)) ∈ mm_G := mm_gi (i := 45) rfl rfl
theorem gw_798 : (Jvm.Cond.methodLink "PennyMoreModel" (266 : Nat) ({ cls := "PennyMoreModel", name := "mayAway", desc := "(I)Z" } : Jvm.MethodName)) ∈ mm_G := mm_gi_6 (i := 183) rfl rfl
theorem gw_799 : (Jvm.Cond.instanceMethod ({ cls := "PennyMoreModel", name := "mayAway", desc := "(I)Z" } : Jvm.MethodName)) ∈ mm_G := mm_gi_6 (i := 185) rfl rfl
theorem gw_800 : (Jvm.Cond.selects "PennyMoreModel" ({ cls := "PennyMoreModel", name := "mayAway", desc := "(I)Z" } : Jvm.MethodName) ({ cls := "PennyMoreModel", name := "mayAway", desc := "(I)Z" } : Jvm.MethodName)) ∈ mm_G := mm_gi (i := 47) rfl rfl
theorem gw_801 : (Jvm.Cond.methodLink "PennyMoreModel" (269 : Nat) ({ cls := "PennyMoreModel", name := "asBuyer", desc := "(I)I" } : Jvm.MethodName)) ∈ mm_G := mm_gi_6 (i := 187) rfl rfl
theorem gw_802 : (Jvm.Cond.instanceMethod ({ cls := "PennyMoreModel", name := "asBuyer", desc := "(I)I" } : Jvm.MethodName)) ∈ mm_G := mm_gi_6 (i := 189) rfl rfl
theorem gw_803 : (Jvm.Cond.selects "PennyMoreModel" ({ cls := "PennyMoreModel", name := "asBuyer", desc := "(I)I" } : Jvm.MethodName) ({ cls := "PennyMoreModel", name := "asBuyer", desc := "(I)I" } : Jvm.MethodName)) ∈ mm_G := mm_gi (i := 48) rfl rfl
theorem gw_804 : (Jvm.Cond.methodLink "PennyMoreModel" (272 : Nat) ({ cls := "PennyMoreModel", name := "asPlain", desc := "(I)I" } : Jvm.MethodName)) ∈ mm_G := mm_gi_6 (i := 171) rfl rfl
theorem gw_805 : (Jvm.Cond.instanceMethod ({ cls := "PennyMoreModel", name := "asPlain", desc := "(I)I" } : Jvm.MethodName)) ∈ mm_G := mm_gi_6 (i := 173) rfl rfl
theorem gw_806 : (Jvm.Cond.selects "PennyMoreModel" ({ cls := "PennyMoreModel", name := "asPlain", desc := "(I)I" } : Jvm.MethodName) ({ cls := "PennyMoreModel", name := "asPlain", desc := "(I)I" } : Jvm.MethodName)) ∈ mm_G := mm_gi (i := 44) rfl rfl
theorem gw_807 : (Jvm.Cond.methodLink "PennyMoreModel" (275 : Nat) ({ cls := "PennyMoreModel", name := "asWaiting", desc := "(I)I" } : Jvm.MethodName)) ∈ mm_G := mm_gi_6 (i := 179) rfl rfl
theorem gw_808 : (Jvm.Cond.instanceMethod ({ cls := "PennyMoreModel", name := "asWaiting", desc := "(I)I" } : Jvm.MethodName)) ∈ mm_G := mm_gi_6 (i := 181) rfl rfl
theorem gw_809 : (Jvm.Cond.selects "PennyMoreModel" ({ cls := "PennyMoreModel", name := "asWaiting", desc := "(I)I" } : Jvm.MethodName) ({ cls := "PennyMoreModel", name := "asWaiting", desc := "(I)I" } : Jvm.MethodName)) ∈ mm_G := mm_gi (i := 46) rfl rfl
theorem gw_810 : (Jvm.Cond.methodLink "PennyMoreModel" (278 : Nat) ({ cls := "PennyMoreModel", name := "asFalling", desc := "(I)I" } : Jvm.MethodName)) ∈ mm_G := mm_gi_6 (i := 191) rfl rfl
theorem gw_811 : (Jvm.Cond.instanceMethod ({ cls := "PennyMoreModel", name := "asFalling", desc := "(I)I" } : Jvm.MethodName)) ∈ mm_G := mm_gi_6 (i := 193) rfl rfl
theorem gw_812 : (Jvm.Cond.selects "PennyMoreModel" ({ cls := "PennyMoreModel", name := "asFalling", desc := "(I)I" } : Jvm.MethodName) ({ cls := "PennyMoreModel", name := "asFalling", desc := "(I)I" } : Jvm.MethodName)) ∈ mm_G := mm_gi (i := 49) rfl rfl
theorem gw_813 : (Jvm.Cond.methodLink "PennyMoreModel" (281 : Nat) ({ cls := "PennyMoreModel", name := "wouldBe", desc := "(I)I" } : Jvm.MethodName)) ∈ mm_G := mm_gi_6 (i := 167) rfl rfl
theorem gw_814 : (Jvm.Cond.instanceMethod ({ cls := "PennyMoreModel", name := "wouldBe", desc := "(I)I" } : Jvm.MethodName)) ∈ mm_G := mm_gi_6 (i := 169) rfl rfl
theorem gw_815 : (Jvm.Cond.selects "PennyMoreModel" ({ cls := "PennyMoreModel", name := "wouldBe", desc := "(I)I" } : Jvm.MethodName) ({ cls := "PennyMoreModel", name := "wouldBe", desc := "(I)I" } : Jvm.MethodName)) ∈ mm_G := mm_gi (i := 43) rfl rfl
theorem gw_816 : (Jvm.Cond.methodLink "PennyMoreModel" (290 : Nat) ({ cls := "PennyMoreModel", name := "comes", desc := "()Z" } : Jvm.MethodName)) ∈ mm_G := mm_gi_6 (i := 199) rfl rfl
theorem gw_817 : (Jvm.Cond.instanceMethod ({ cls := "PennyMoreModel", name := "comes", desc := "()Z" } : Jvm.MethodName)) ∈ mm_G := mm_gi_6 (i := 201) rfl rfl
theorem gw_818 : (Jvm.Cond.selects "PennyMoreModel" ({ cls := "PennyMoreModel", name := "comes", desc := "()Z" } : Jvm.MethodName) ({ cls := "PennyMoreModel", name := "comes", desc := "()Z" } : Jvm.MethodName)) ∈ mm_G := mm_gi (i := 50) rfl rfl
theorem gw_819 : (Jvm.Cond.methodLink "PennyMoreModel" (293 : Nat) ({ cls := "PennyMoreModel", name := "does", desc := "(I)V" } : Jvm.MethodName)) ∈ mm_G := mm_gi_6 (i := 203) rfl rfl
theorem gw_820 : (Jvm.Cond.instanceMethod ({ cls := "PennyMoreModel", name := "does", desc := "(I)V" } : Jvm.MethodName)) ∈ mm_G := mm_gi_6 (i := 205) rfl rfl
theorem gw_821 : (Jvm.Cond.selects "PennyMoreModel" ({ cls := "PennyMoreModel", name := "does", desc := "(I)V" } : Jvm.MethodName) ({ cls := "PennyMoreModel", name := "does", desc := "(I)V" } : Jvm.MethodName)) ∈ mm_G := mm_gi (i := 51) rfl rfl
theorem gw_822 : (Jvm.Cond.methodLink "PennyMoreModel" (311 : Nat) ({ cls := "PennyMoreModel", name := "keeps", desc := "()V" } : Jvm.MethodName)) ∈ mm_G := mm_gi_6 (i := 211) rfl rfl
theorem gw_823 : (Jvm.Cond.instanceMethod ({ cls := "PennyMoreModel", name := "keeps", desc := "()V" } : Jvm.MethodName)) ∈ mm_G := mm_gi_6 (i := 213) rfl rfl
theorem gw_824 : (Jvm.Cond.selects "PennyMoreModel" ({ cls := "PennyMoreModel", name := "keeps", desc := "()V" } : Jvm.MethodName) ({ cls := "PennyMoreModel", name := "keeps", desc := "()V" } : Jvm.MethodName)) ∈ mm_G := mm_gi (i := 52) rfl rfl
theorem gw_825 : (Jvm.Cond.methodLink "PennyMoreModel" (314 : Nat) ({ cls := "PennyMoreModel", name := "toTheEnd", desc := "()V" } : Jvm.MethodName)) ∈ mm_G := mm_gi_6 (i := 215) rfl rfl
theorem gw_826 : (Jvm.Cond.instanceMethod ({ cls := "PennyMoreModel", name := "toTheEnd", desc := "()V" } : Jvm.MethodName)) ∈ mm_G := mm_gi_6 (i := 217) rfl rfl
theorem gw_827 : (Jvm.Cond.selects "PennyMoreModel" ({ cls := "PennyMoreModel", name := "toTheEnd", desc := "()V" } : Jvm.MethodName) ({ cls := "PennyMoreModel", name := "toTheEnd", desc := "()V" } : Jvm.MethodName)) ∈ mm_G := mm_gi (i := 53) rfl rfl
theorem gw_828 : (Jvm.Cond.methodLink "PennyMoreModel" (317 : Nat) ({ cls := "PennyMoreModel", name := "lays", desc := "()V" } : Jvm.MethodName)) ∈ mm_G := mm_gi_6 (i := 219) rfl rfl
theorem gw_829 : (Jvm.Cond.instanceMethod ({ cls := "PennyMoreModel", name := "lays", desc := "()V" } : Jvm.MethodName)) ∈ mm_G := mm_gi_6 (i := 221) rfl rfl
theorem gw_830 : (Jvm.Cond.selects "PennyMoreModel" ({ cls := "PennyMoreModel", name := "lays", desc := "()V" } : Jvm.MethodName) ({ cls := "PennyMoreModel", name := "lays", desc := "()V" } : Jvm.MethodName)) ∈ mm_G := mm_gi (i := 54) rfl rfl
theorem gw_831 : (Jvm.Cond.methodLink "PennyMoreModel" (320 : Nat) ({ cls := "PennyMoreModel", name := "allGained", desc := "()I" } : Jvm.MethodName)) ∈ mm_G := mm_gi_6 (i := 227) rfl rfl
theorem gw_832 : (Jvm.Cond.instanceMethod ({ cls := "PennyMoreModel", name := "allGained", desc := "()I" } : Jvm.MethodName)) ∈ mm_G := mm_gi_6 (i := 229) rfl rfl
theorem gw_833 : (Jvm.Cond.selects "PennyMoreModel" ({ cls := "PennyMoreModel", name := "allGained", desc := "()I" } : Jvm.MethodName) ({ cls := "PennyMoreModel", name := "allGained", desc := "()I" } : Jvm.MethodName)) ∈ mm_G := mm_gi (i := 55) rfl rfl
theorem gw_834 : (Jvm.Cond.methodLink "PennyMoreModel" (326 : Nat) ({ cls := "PennyMoreModel", name := "stands", desc := "(I)V" } : Jvm.MethodName)) ∈ mm_G := mm_gi_6 (i := 238) rfl rfl
theorem gw_835 : (Jvm.Cond.instanceMethod ({ cls := "PennyMoreModel", name := "stands", desc := "(I)V" } : Jvm.MethodName)) ∈ mm_G := mm_gi_7 (i := 0) rfl rfl
theorem gw_836 : (Jvm.Cond.selects "PennyMoreModel" ({ cls := "PennyMoreModel", name := "stands", desc := "(I)V" } : Jvm.MethodName) ({ cls := "PennyMoreModel", name := "stands", desc := "(I)V" } : Jvm.MethodName)) ∈ mm_G := mm_gi (i := 56) rfl rfl
theorem gw_837 : (Jvm.Cond.methodLink "PennyMoreModel" (336 : Nat) ({ cls := "PennyMoreModel", name := "othersGain", desc := "(IZ)I" } : Jvm.MethodName)) ∈ mm_G := mm_gi_7 (i := 27) rfl rfl
theorem gw_838 : (Jvm.Cond.instanceMethod ({ cls := "PennyMoreModel", name := "othersGain", desc := "(IZ)I" } : Jvm.MethodName)) ∈ mm_G := mm_gi_7 (i := 29) rfl rfl
theorem gw_839 : (Jvm.Cond.selects "PennyMoreModel" ({ cls := "PennyMoreModel", name := "othersGain", desc := "(IZ)I" } : Jvm.MethodName) ({ cls := "PennyMoreModel", name := "othersGain", desc := "(IZ)I" } : Jvm.MethodName)) ∈ mm_G := mm_gi (i := 57) rfl rfl
theorem gw_840 : (Jvm.Cond.methodLink "PennyMoreModel" (347 : Nat) ({ cls := "PennyMoreModel", name := "keepsAt", desc := "(I)V" } : Jvm.MethodName)) ∈ mm_G := mm_gi_7 (i := 44) rfl rfl
theorem gw_841 : (Jvm.Cond.instanceMethod ({ cls := "PennyMoreModel", name := "keepsAt", desc := "(I)V" } : Jvm.MethodName)) ∈ mm_G := mm_gi_7 (i := 46) rfl rfl
theorem gw_842 : (Jvm.Cond.selects "PennyMoreModel" ({ cls := "PennyMoreModel", name := "keepsAt", desc := "(I)V" } : Jvm.MethodName) ({ cls := "PennyMoreModel", name := "keepsAt", desc := "(I)V" } : Jvm.MethodName)) ∈ mm_G := mm_gi (i := 59) rfl rfl
theorem gw_843 : (Jvm.Cond.methodLink "PennyMoreModel" (350 : Nat) ({ cls := "PennyMoreModel", name := "slipsOn", desc := "(IIJ)V" } : Jvm.MethodName)) ∈ mm_G := mm_gi_7 (i := 40) rfl rfl
theorem gw_844 : (Jvm.Cond.instanceMethod ({ cls := "PennyMoreModel", name := "slipsOn", desc := "(IIJ)V" } : Jvm.MethodName)) ∈ mm_G := mm_gi_7 (i := 42) rfl rfl
theorem gw_845 : (Jvm.Cond.selects "PennyMoreModel" ({ cls := "PennyMoreModel", name := "slipsOn", desc := "(IIJ)V" } : Jvm.MethodName) ({ cls := "PennyMoreModel", name := "slipsOn", desc := "(IIJ)V" } : Jvm.MethodName)) ∈ mm_G := mm_gi (i := 58) rfl rfl
theorem gw_846 : (Jvm.Cond.methodLink "PennyMoreModel" (360 : Nat) ({ cls := "PennyMoreModel", name := "laysAt", desc := "(I)V" } : Jvm.MethodName)) ∈ mm_G := mm_gi_7 (i := 49) rfl rfl
theorem gw_847 : (Jvm.Cond.instanceMethod ({ cls := "PennyMoreModel", name := "laysAt", desc := "(I)V" } : Jvm.MethodName)) ∈ mm_G := mm_gi_7 (i := 51) rfl rfl
theorem gw_848 : (Jvm.Cond.selects "PennyMoreModel" ({ cls := "PennyMoreModel", name := "laysAt", desc := "(I)V" } : Jvm.MethodName) ({ cls := "PennyMoreModel", name := "laysAt", desc := "(I)V" } : Jvm.MethodName)) ∈ mm_G := mm_gi (i := 60) rfl rfl
theorem gw_849 : (Jvm.Cond.methodLink "PennyMoreModel" (368 : Nat) ({ cls := "PennyMoreModel", name := "isTape", desc := "(I)Z" } : Jvm.MethodName)) ∈ mm_G := mm_gi_7 (i := 65) rfl rfl
theorem gw_850 : (Jvm.Cond.instanceMethod ({ cls := "PennyMoreModel", name := "isTape", desc := "(I)Z" } : Jvm.MethodName)) ∈ mm_G := mm_gi_7 (i := 67) rfl rfl
theorem gw_851 : (Jvm.Cond.selects "PennyMoreModel" ({ cls := "PennyMoreModel", name := "isTape", desc := "(I)Z" } : Jvm.MethodName) ({ cls := "PennyMoreModel", name := "isTape", desc := "(I)Z" } : Jvm.MethodName)) ∈ mm_G := mm_gi (i := 61) rfl rfl
theorem gw_852 : (Jvm.Cond.methodLink "PennyMoreModel" (389 : Nat) ({ cls := "PennyMoreModel", name := "runs", desc := "(I)V" } : Jvm.MethodName)) ∈ mm_G := mm_gi_7 (i := 85) rfl rfl
theorem gw_853 : (Jvm.Cond.instanceMethod ({ cls := "PennyMoreModel", name := "runs", desc := "(I)V" } : Jvm.MethodName)) ∈ mm_G := mm_gi_7 (i := 87) rfl rfl
theorem gw_854 : (Jvm.Cond.selects "PennyMoreModel" ({ cls := "PennyMoreModel", name := "runs", desc := "(I)V" } : Jvm.MethodName) ({ cls := "PennyMoreModel", name := "runs", desc := "(I)V" } : Jvm.MethodName)) ∈ mm_G := mm_gi (i := 63) rfl rfl
theorem gw_855 : (Jvm.Cond.methodLink "PennyMoreModel" (395 : Nat) ({ cls := "PennyMoreModel", name := "bids", desc := "(II)I" } : Jvm.MethodName)) ∈ mm_G := mm_gi_7 (i := 81) rfl rfl
theorem gw_856 : (Jvm.Cond.instanceMethod ({ cls := "PennyMoreModel", name := "bids", desc := "(II)I" } : Jvm.MethodName)) ∈ mm_G := mm_gi_7 (i := 83) rfl rfl
theorem gw_857 : (Jvm.Cond.selects "PennyMoreModel" ({ cls := "PennyMoreModel", name := "bids", desc := "(II)I" } : Jvm.MethodName) ({ cls := "PennyMoreModel", name := "bids", desc := "(II)I" } : Jvm.MethodName)) ∈ mm_G := mm_gi (i := 62) rfl rfl
theorem gw_858 : (Jvm.Cond.methodLink "PennyMoreModel" (401 : Nat) ({ cls := "PennyMoreModel", name := "waitsIn", desc := "(II)I" } : Jvm.MethodName)) ∈ mm_G := mm_gi_7 (i := 92) rfl rfl
theorem gw_859 : (Jvm.Cond.instanceMethod ({ cls := "PennyMoreModel", name := "waitsIn", desc := "(II)I" } : Jvm.MethodName)) ∈ mm_G := mm_gi_7 (i := 94) rfl rfl
theorem gw_860 : (Jvm.Cond.selects "PennyMoreModel" ({ cls := "PennyMoreModel", name := "waitsIn", desc := "(II)I" } : Jvm.MethodName) ({ cls := "PennyMoreModel", name := "waitsIn", desc := "(II)I" } : Jvm.MethodName)) ∈ mm_G := mm_gi (i := 64) rfl rfl
theorem gw_861 : (Jvm.Cond.methodLink "PennyMoreModel" (404 : Nat) ({ cls := "PennyMoreModel", name := "tellsIn", desc := "(II)I" } : Jvm.MethodName)) ∈ mm_G := mm_gi_7 (i := 96) rfl rfl
theorem gw_862 : (Jvm.Cond.instanceMethod ({ cls := "PennyMoreModel", name := "tellsIn", desc := "(II)I" } : Jvm.MethodName)) ∈ mm_G := mm_gi_7 (i := 98) rfl rfl
theorem gw_863 : (Jvm.Cond.selects "PennyMoreModel" ({ cls := "PennyMoreModel", name := "tellsIn", desc := "(II)I" } : Jvm.MethodName) ({ cls := "PennyMoreModel", name := "tellsIn", desc := "(II)I" } : Jvm.MethodName)) ∈ mm_G := mm_gi (i := 65) rfl rfl
theorem gw_864 : (Jvm.Cond.methodLink "java/lang/String" (335 : Nat) ({ cls := "java/lang/String", name := "coder", desc := "()B" } : Jvm.MethodName)) ∈ mm_G := mm_gi_3 (i := 11) rfl rfl
theorem gw_865 : (Jvm.Cond.instanceMethod ({ cls := "java/lang/String", name := "coder", desc := "()B" } : Jvm.MethodName)) ∈ mm_G := mm_gi_3 (i := 12) rfl rfl
theorem gw_866 : (Jvm.Cond.selects "java/lang/String" ({ cls := "java/lang/String", name := "coder", desc := "()B" } : Jvm.MethodName) ({ cls := "java/lang/String", name := "coder", desc := "()B" } : Jvm.MethodName)) ∈ mm_G := mm_gi_3 (i := 13) rfl rfl
theorem gw_867 : (Jvm.Cond.methodLink "java/lang/String" (492 : Nat) ({ cls := "java/lang/String", name := "isLatin1", desc := "()Z" } : Jvm.MethodName)) ∈ mm_G := mm_gi_3 (i := 21) rfl rfl
theorem gw_868 : (Jvm.Cond.instanceMethod ({ cls := "java/lang/String", name := "isLatin1", desc := "()Z" } : Jvm.MethodName)) ∈ mm_G := mm_gi_3 (i := 22) rfl rfl
theorem gw_869 : (Jvm.Cond.selects "java/lang/String" ({ cls := "java/lang/String", name := "isLatin1", desc := "()Z" } : Jvm.MethodName) ({ cls := "java/lang/String", name := "isLatin1", desc := "()Z" } : Jvm.MethodName)) ∈ mm_G := mm_gi_3 (i := 23) rfl rfl
theorem gw_870 : (Jvm.Cond.methodLink "java/lang/String" (505 : Nat) ({ cls := "java/lang/String", name := "length", desc := "()I" } : Jvm.MethodName)) ∈ mm_G := mm_gi_3 (i := 85) rfl rfl
theorem gw_871 : (Jvm.Cond.methodLink "java/lang/String" (633 : Nat) ({ cls := "java/lang/String", name := "indexOf", desc := "(II)I" } : Jvm.MethodName)) ∈ mm_G := mm_gi_3 (i := 81) rfl rfl
theorem gw_872 : (Jvm.Cond.instanceMethod ({ cls := "java/lang/String", name := "indexOf", desc := "(II)I" } : Jvm.MethodName)) ∈ mm_G := mm_gi_3 (i := 82) rfl rfl
theorem gw_873 : (Jvm.Cond.selects "java/lang/String" ({ cls := "java/lang/String", name := "indexOf", desc := "(II)I" } : Jvm.MethodName) ({ cls := "java/lang/String", name := "indexOf", desc := "(II)I" } : Jvm.MethodName)) ∈ mm_G := mm_gi_3 (i := 83) rfl rfl
theorem gw_874 : (Jvm.Cond.methodLink "PennyMoreLaw" (13 : Nat) ({ cls := "PennyMore", name := "buyer", desc := "(III)I" } : Jvm.MethodName)) ∈ mm_G := mm_gi_2 (i := 20) rfl rfl
theorem gw_875 : (Jvm.Cond.instanceMethod ({ cls := "PennyMore", name := "buyer", desc := "(III)I" } : Jvm.MethodName)) ∈ mm_G := mm_gi_2 (i := 21) rfl rfl
theorem gw_876 : (Jvm.Cond.selects "PennyMore" ({ cls := "PennyMore", name := "buyer", desc := "(III)I" } : Jvm.MethodName) ({ cls := "PennyMore", name := "buyer", desc := "(III)I" } : Jvm.MethodName)) ∈ mm_G := mm_gi_2 (i := 22) rfl rfl
theorem gw_877 : (Jvm.Cond.methodLink "PennyMoreLaw" (17 : Nat) ({ cls := "PennyMoreModel", name := "buyer", desc := "(III)I" } : Jvm.MethodName)) ∈ mm_G := mm_gi_6 (i := 36) rfl rfl
theorem gw_878 : (Jvm.Cond.instanceMethod ({ cls := "PennyMoreModel", name := "buyer", desc := "(III)I" } : Jvm.MethodName)) ∈ mm_G := mm_gi_6 (i := 37) rfl rfl
theorem gw_879 : (Jvm.Cond.selects "PennyMoreModel" ({ cls := "PennyMoreModel", name := "buyer", desc := "(III)I" } : Jvm.MethodName) ({ cls := "PennyMoreModel", name := "buyer", desc := "(III)I" } : Jvm.MethodName)) ∈ mm_G := mm_gi_6 (i := 38) rfl rfl
theorem gw_880 : (Jvm.Cond.methodLink "PennyMoreLaw" (18 : Nat) ({ cls := "PennyMore", name := "of", desc := "(II)I" } : Jvm.MethodName)) ∈ mm_G := mm_gi_2 (i := 143) rfl rfl
theorem gw_881 : (Jvm.Cond.instanceMethod ({ cls := "PennyMore", name := "of", desc := "(II)I" } : Jvm.MethodName)) ∈ mm_G := mm_gi_2 (i := 144) rfl rfl
theorem gw_882 : (Jvm.Cond.selects "PennyMore" ({ cls := "PennyMore", name := "of", desc := "(II)I" } : Jvm.MethodName) ({ cls := "PennyMore", name := "of", desc := "(II)I" } : Jvm.MethodName)) ∈ mm_G := mm_gi_2 (i := 145) rfl rfl
theorem gw_883 : (Jvm.Cond.methodLink "PennyMoreLaw" (22 : Nat) ({ cls := "PennyMoreModel", name := "of", desc := "(II)I" } : Jvm.MethodName)) ∈ mm_G := mm_gi_6 (i := 43) rfl rfl
theorem gw_884 : (Jvm.Cond.instanceMethod ({ cls := "PennyMoreModel", name := "of", desc := "(II)I" } : Jvm.MethodName)) ∈ mm_G := mm_gi_6 (i := 44) rfl rfl
theorem gw_885 : (Jvm.Cond.selects "PennyMoreModel" ({ cls := "PennyMoreModel", name := "of", desc := "(II)I" } : Jvm.MethodName) ({ cls := "PennyMoreModel", name := "of", desc := "(II)I" } : Jvm.MethodName)) ∈ mm_G := mm_gi_6 (i := 45) rfl rfl
theorem gw_886 : (Jvm.Cond.methodLink "PennyMoreLaw" (23 : Nat) ({ cls := "PennyMore", name := "gained", desc := "(I)I" } : Jvm.MethodName)) ∈ mm_G := mm_gi_2 (i := 182) rfl rfl
theorem gw_887 : (Jvm.Cond.instanceMethod ({ cls := "PennyMore", name := "gained", desc := "(I)I" } : Jvm.MethodName)) ∈ mm_G := mm_gi_2 (i := 183) rfl rfl
theorem gw_888 : (Jvm.Cond.selects "PennyMore" ({ cls := "PennyMore", name := "gained", desc := "(I)I" } : Jvm.MethodName) ({ cls := "PennyMore", name := "gained", desc := "(I)I" } : Jvm.MethodName)) ∈ mm_G := mm_gi_2 (i := 184) rfl rfl
theorem gw_889 : (Jvm.Cond.methodLink "PennyMoreLaw" (27 : Nat) ({ cls := "PennyMoreModel", name := "gained", desc := "(I)I" } : Jvm.MethodName)) ∈ mm_G := mm_gi_6 (i := 75) rfl rfl
theorem gw_890 : (Jvm.Cond.instanceMethod ({ cls := "PennyMoreModel", name := "gained", desc := "(I)I" } : Jvm.MethodName)) ∈ mm_G := mm_gi_6 (i := 76) rfl rfl
theorem gw_891 : (Jvm.Cond.selects "PennyMoreModel" ({ cls := "PennyMoreModel", name := "gained", desc := "(I)I" } : Jvm.MethodName) ({ cls := "PennyMoreModel", name := "gained", desc := "(I)I" } : Jvm.MethodName)) ∈ mm_G := mm_gi_6 (i := 77) rfl rfl
theorem gw_892 : (Jvm.Cond.methodLink "PennyMoreLaw" (28 : Nat) ({ cls := "PennyMore", name := "friend", desc := "(II)I" } : Jvm.MethodName)) ∈ mm_G := mm_gi_2 (i := 187) rfl rfl
theorem gw_893 : (Jvm.Cond.instanceMethod ({ cls := "PennyMore", name := "friend", desc := "(II)I" } : Jvm.MethodName)) ∈ mm_G := mm_gi_2 (i := 188) rfl rfl
theorem gw_894 : (Jvm.Cond.selects "PennyMore" ({ cls := "PennyMore", name := "friend", desc := "(II)I" } : Jvm.MethodName) ({ cls := "PennyMore", name := "friend", desc := "(II)I" } : Jvm.MethodName)) ∈ mm_G := mm_gi_2 (i := 189) rfl rfl
theorem gw_895 : (Jvm.Cond.methodLink "PennyMoreLaw" (31 : Nat) ({ cls := "PennyMoreModel", name := "friend", desc := "(II)I" } : Jvm.MethodName)) ∈ mm_G := mm_gi_6 (i := 80) rfl rfl
theorem gw_896 : (Jvm.Cond.instanceMethod ({ cls := "PennyMoreModel", name := "friend", desc := "(II)I" } : Jvm.MethodName)) ∈ mm_G := mm_gi_6 (i := 81) rfl rfl
theorem gw_897 : (Jvm.Cond.selects "PennyMoreModel" ({ cls := "PennyMoreModel", name := "friend", desc := "(II)I" } : Jvm.MethodName) ({ cls := "PennyMoreModel", name := "friend", desc := "(II)I" } : Jvm.MethodName)) ∈ mm_G := mm_gi_6 (i := 82) rfl rfl
theorem gw_898 : (Jvm.Cond.methodLink "PennyMoreLaw" (32 : Nat) ({ cls := "PennyMore", name := "row", desc := "(III)I" } : Jvm.MethodName)) ∈ mm_G := mm_gi_2 (i := 191) rfl rfl
theorem gw_899 : (Jvm.Cond.instanceMethod ({ cls := "PennyMore", name := "row", desc := "(III)I" } : Jvm.MethodName)) ∈ mm_G := mm_gi_2 (i := 192) rfl rfl
theorem gw_900 : (Jvm.Cond.selects "PennyMore" ({ cls := "PennyMore", name := "row", desc := "(III)I" } : Jvm.MethodName) ({ cls := "PennyMore", name := "row", desc := "(III)I" } : Jvm.MethodName)) ∈ mm_G := mm_gi_2 (i := 193) rfl rfl
theorem gw_901 : (Jvm.Cond.methodLink "PennyMoreLaw" (35 : Nat) ({ cls := "PennyMoreModel", name := "row", desc := "(III)I" } : Jvm.MethodName)) ∈ mm_G := mm_gi_6 (i := 84) rfl rfl
theorem gw_902 : (Jvm.Cond.instanceMethod ({ cls := "PennyMoreModel", name := "row", desc := "(III)I" } : Jvm.MethodName)) ∈ mm_G := mm_gi_6 (i := 85) rfl rfl
theorem gw_903 : (Jvm.Cond.selects "PennyMoreModel" ({ cls := "PennyMoreModel", name := "row", desc := "(III)I" } : Jvm.MethodName) ({ cls := "PennyMoreModel", name := "row", desc := "(III)I" } : Jvm.MethodName)) ∈ mm_G := mm_gi_6 (i := 86) rfl rfl
theorem gw_904 : (Jvm.Cond.methodLink "PennyMoreLaw" (36 : Nat) ({ cls := "PennyMore", name := "back", desc := "(I)I" } : Jvm.MethodName)) ∈ mm_G := mm_gi_2 (i := 195) rfl rfl
theorem gw_905 : (Jvm.Cond.instanceMethod ({ cls := "PennyMore", name := "back", desc := "(I)I" } : Jvm.MethodName)) ∈ mm_G := mm_gi_2 (i := 196) rfl rfl
theorem gw_906 : (Jvm.Cond.selects "PennyMore" ({ cls := "PennyMore", name := "back", desc := "(I)I" } : Jvm.MethodName) ({ cls := "PennyMore", name := "back", desc := "(I)I" } : Jvm.MethodName)) ∈ mm_G := mm_gi_2 (i := 197) rfl rfl
theorem gw_907 : (Jvm.Cond.methodLink "PennyMoreLaw" (39 : Nat) ({ cls := "PennyMoreModel", name := "back", desc := "(I)I" } : Jvm.MethodName)) ∈ mm_G := mm_gi_6 (i := 88) rfl rfl
theorem gw_908 : (Jvm.Cond.instanceMethod ({ cls := "PennyMoreModel", name := "back", desc := "(I)I" } : Jvm.MethodName)) ∈ mm_G := mm_gi_6 (i := 89) rfl rfl
theorem gw_909 : (Jvm.Cond.selects "PennyMoreModel" ({ cls := "PennyMoreModel", name := "back", desc := "(I)I" } : Jvm.MethodName) ({ cls := "PennyMoreModel", name := "back", desc := "(I)I" } : Jvm.MethodName)) ∈ mm_G := mm_gi_6 (i := 90) rfl rfl
theorem gw_910 : (Jvm.Cond.methodLink "PennyMoreLaw" (40 : Nat) ({ cls := "PennyMore", name := "set", desc := "(II)I" } : Jvm.MethodName)) ∈ mm_G := mm_gi_2 (i := 200) rfl rfl
theorem gw_911 : (Jvm.Cond.instanceMethod ({ cls := "PennyMore", name := "set", desc := "(II)I" } : Jvm.MethodName)) ∈ mm_G := mm_gi_2 (i := 201) rfl rfl
theorem gw_912 : (Jvm.Cond.selects "PennyMore" ({ cls := "PennyMore", name := "set", desc := "(II)I" } : Jvm.MethodName) ({ cls := "PennyMore", name := "set", desc := "(II)I" } : Jvm.MethodName)) ∈ mm_G := mm_gi_2 (i := 202) rfl rfl
theorem gw_913 : (Jvm.Cond.methodLink "PennyMoreLaw" (43 : Nat) ({ cls := "PennyMoreModel", name := "set", desc := "(II)I" } : Jvm.MethodName)) ∈ mm_G := mm_gi_6 (i := 92) rfl rfl
theorem gw_914 : (Jvm.Cond.instanceMethod ({ cls := "PennyMoreModel", name := "set", desc := "(II)I" } : Jvm.MethodName)) ∈ mm_G := mm_gi_6 (i := 93) rfl rfl
theorem gw_915 : (Jvm.Cond.selects "PennyMoreModel" ({ cls := "PennyMoreModel", name := "set", desc := "(II)I" } : Jvm.MethodName) ({ cls := "PennyMoreModel", name := "set", desc := "(II)I" } : Jvm.MethodName)) ∈ mm_G := mm_gi_6 (i := 94) rfl rfl
theorem gw_916 : (Jvm.Cond.methodLink "PennyMoreLaw" (44 : Nat) ({ cls := "PennyMore", name := "feed", desc := "(I)I" } : Jvm.MethodName)) ∈ mm_G := mm_gi_2 (i := 204) rfl rfl
theorem gw_917 : (Jvm.Cond.instanceMethod ({ cls := "PennyMore", name := "feed", desc := "(I)I" } : Jvm.MethodName)) ∈ mm_G := mm_gi_2 (i := 205) rfl rfl
theorem gw_918 : (Jvm.Cond.selects "PennyMore" ({ cls := "PennyMore", name := "feed", desc := "(I)I" } : Jvm.MethodName) ({ cls := "PennyMore", name := "feed", desc := "(I)I" } : Jvm.MethodName)) ∈ mm_G := mm_gi_2 (i := 206) rfl rfl
theorem gw_919 : (Jvm.Cond.methodLink "PennyMoreLaw" (47 : Nat) ({ cls := "PennyMoreModel", name := "feed", desc := "(I)I" } : Jvm.MethodName)) ∈ mm_G := mm_gi_6 (i := 96) rfl rfl
theorem gw_920 : (Jvm.Cond.instanceMethod ({ cls := "PennyMoreModel", name := "feed", desc := "(I)I" } : Jvm.MethodName)) ∈ mm_G := mm_gi_6 (i := 97) rfl rfl
theorem gw_921 : (Jvm.Cond.selects "PennyMoreModel" ({ cls := "PennyMoreModel", name := "feed", desc := "(I)I" } : Jvm.MethodName) ({ cls := "PennyMoreModel", name := "feed", desc := "(I)I" } : Jvm.MethodName)) ∈ mm_G := mm_gi_6 (i := 98) rfl rfl
theorem gw_922 : (Jvm.Cond.methodLink "PennyMoreLaw" (48 : Nat) ({ cls := "PennyMore", name := "shop", desc := "()I" } : Jvm.MethodName)) ∈ mm_G := mm_gi_2 (i := 212) rfl rfl
theorem gw_923 : (Jvm.Cond.instanceMethod ({ cls := "PennyMore", name := "shop", desc := "()I" } : Jvm.MethodName)) ∈ mm_G := mm_gi_2 (i := 213) rfl rfl
theorem gw_924 : (Jvm.Cond.selects "PennyMore" ({ cls := "PennyMore", name := "shop", desc := "()I" } : Jvm.MethodName) ({ cls := "PennyMore", name := "shop", desc := "()I" } : Jvm.MethodName)) ∈ mm_G := mm_gi_2 (i := 214) rfl rfl
theorem gw_925 : (Jvm.Cond.methodLink "PennyMoreLaw" (52 : Nat) ({ cls := "PennyMoreModel", name := "shop", desc := "()I" } : Jvm.MethodName)) ∈ mm_G := mm_gi_6 (i := 100) rfl rfl
theorem gw_926 : (Jvm.Cond.instanceMethod ({ cls := "PennyMoreModel", name := "shop", desc := "()I" } : Jvm.MethodName)) ∈ mm_G := mm_gi_6 (i := 101) rfl rfl
theorem gw_927 : (Jvm.Cond.selects "PennyMoreModel" ({ cls := "PennyMoreModel", name := "shop", desc := "()I" } : Jvm.MethodName) ({ cls := "PennyMoreModel", name := "shop", desc := "()I" } : Jvm.MethodName)) ∈ mm_G := mm_gi_6 (i := 102) rfl rfl
theorem gw_928 : (Jvm.Cond.methodLink "PennyMoreLaw" (53 : Nat) ({ cls := "PennyMore", name := "told", desc := "(I)I" } : Jvm.MethodName)) ∈ mm_G := mm_gi_3 (i := 160) rfl rfl
theorem gw_929 : (Jvm.Cond.instanceMethod ({ cls := "PennyMore", name := "told", desc := "(I)I" } : Jvm.MethodName)) ∈ mm_G := mm_gi_3 (i := 161) rfl rfl
theorem gw_930 : (Jvm.Cond.selects "PennyMore" ({ cls := "PennyMore", name := "told", desc := "(I)I" } : Jvm.MethodName) ({ cls := "PennyMore", name := "told", desc := "(I)I" } : Jvm.MethodName)) ∈ mm_G := mm_gi_3 (i := 162) rfl rfl
theorem gw_931 : (Jvm.Cond.methodLink "PennyMoreLaw" (56 : Nat) ({ cls := "PennyMoreModel", name := "told", desc := "(I)I" } : Jvm.MethodName)) ∈ mm_G := mm_gi_6 (i := 155) rfl rfl
theorem gw_932 : (Jvm.Cond.instanceMethod ({ cls := "PennyMoreModel", name := "told", desc := "(I)I" } : Jvm.MethodName)) ∈ mm_G := mm_gi_6 (i := 156) rfl rfl
theorem gw_933 : (Jvm.Cond.selects "PennyMoreModel" ({ cls := "PennyMoreModel", name := "told", desc := "(I)I" } : Jvm.MethodName) ({ cls := "PennyMoreModel", name := "told", desc := "(I)I" } : Jvm.MethodName)) ∈ mm_G := mm_gi_6 (i := 157) rfl rfl
theorem gw_934 : (Jvm.Cond.methodLink "PennyMoreLaw" (57 : Nat) ({ cls := "PennyMore", name := "would", desc := "(I)I" } : Jvm.MethodName)) ∈ mm_G := mm_gi_3 (i := 168) rfl rfl
theorem gw_935 : (Jvm.Cond.instanceMethod ({ cls := "PennyMore", name := "would", desc := "(I)I" } : Jvm.MethodName)) ∈ mm_G := mm_gi_3 (i := 169) rfl rfl
theorem gw_936 : (Jvm.Cond.selects "PennyMore" ({ cls := "PennyMore", name := "would", desc := "(I)I" } : Jvm.MethodName) ({ cls := "PennyMore", name := "would", desc := "(I)I" } : Jvm.MethodName)) ∈ mm_G := mm_gi_3 (i := 170) rfl rfl
theorem gw_937 : (Jvm.Cond.methodLink "PennyMoreLaw" (60 : Nat) ({ cls := "PennyMoreModel", name := "would", desc := "(I)I" } : Jvm.MethodName)) ∈ mm_G := mm_gi_6 (i := 163) rfl rfl
theorem gw_938 : (Jvm.Cond.instanceMethod ({ cls := "PennyMoreModel", name := "would", desc := "(I)I" } : Jvm.MethodName)) ∈ mm_G := mm_gi_6 (i := 164) rfl rfl
theorem gw_939 : (Jvm.Cond.selects "PennyMoreModel" ({ cls := "PennyMoreModel", name := "would", desc := "(I)I" } : Jvm.MethodName) ({ cls := "PennyMoreModel", name := "would", desc := "(I)I" } : Jvm.MethodName)) ∈ mm_G := mm_gi_6 (i := 165) rfl rfl
theorem gw_940 : (Jvm.Cond.methodLink "PennyMoreLaw" (61 : Nat) ({ cls := "PennyMore", name := "go", desc := "()I" } : Jvm.MethodName)) ∈ mm_G := mm_gi_3 (i := 227) rfl rfl
theorem gw_941 : (Jvm.Cond.instanceMethod ({ cls := "PennyMore", name := "go", desc := "()I" } : Jvm.MethodName)) ∈ mm_G := mm_gi_3 (i := 228) rfl rfl
theorem gw_942 : (Jvm.Cond.selects "PennyMore" ({ cls := "PennyMore", name := "go", desc := "()I" } : Jvm.MethodName) ({ cls := "PennyMore", name := "go", desc := "()I" } : Jvm.MethodName)) ∈ mm_G := mm_gi_3 (i := 229) rfl rfl
theorem gw_943 : (Jvm.Cond.methodLink "PennyMoreLaw" (64 : Nat) ({ cls := "PennyMoreModel", name := "go", desc := "()I" } : Jvm.MethodName)) ∈ mm_G := mm_gi_6 (i := 195) rfl rfl
theorem gw_944 : (Jvm.Cond.instanceMethod ({ cls := "PennyMoreModel", name := "go", desc := "()I" } : Jvm.MethodName)) ∈ mm_G := mm_gi_6 (i := 196) rfl rfl
theorem gw_945 : (Jvm.Cond.selects "PennyMoreModel" ({ cls := "PennyMoreModel", name := "go", desc := "()I" } : Jvm.MethodName) ({ cls := "PennyMoreModel", name := "go", desc := "()I" } : Jvm.MethodName)) ∈ mm_G := mm_gi_6 (i := 197) rfl rfl
theorem gw_946 : (Jvm.Cond.methodLink "PennyMoreLaw" (65 : Nat) ({ cls := "PennyMore", name := "run", desc := "(I)I" } : Jvm.MethodName)) ∈ mm_G := mm_gi_4 (i := 6) rfl rfl
theorem gw_947 : (Jvm.Cond.instanceMethod ({ cls := "PennyMore", name := "run", desc := "(I)I" } : Jvm.MethodName)) ∈ mm_G := mm_gi_4 (i := 7) rfl rfl
theorem gw_948 : (Jvm.Cond.selects "PennyMore" ({ cls := "PennyMore", name := "run", desc := "(I)I" } : Jvm.MethodName) ({ cls := "PennyMore", name := "run", desc := "(I)I" } : Jvm.MethodName)) ∈ mm_G := mm_gi_4 (i := 8) rfl rfl
theorem gw_949 : (Jvm.Cond.methodLink "PennyMoreLaw" (68 : Nat) ({ cls := "PennyMoreModel", name := "run", desc := "(I)I" } : Jvm.MethodName)) ∈ mm_G := mm_gi_6 (i := 207) rfl rfl
theorem gw_950 : (Jvm.Cond.instanceMethod ({ cls := "PennyMoreModel", name := "run", desc := "(I)I" } : Jvm.MethodName)) ∈ mm_G := mm_gi_6 (i := 208) rfl rfl
theorem gw_951 : (Jvm.Cond.selects "PennyMoreModel" ({ cls := "PennyMoreModel", name := "run", desc := "(I)I" } : Jvm.MethodName) ({ cls := "PennyMoreModel", name := "run", desc := "(I)I" } : Jvm.MethodName)) ∈ mm_G := mm_gi_6 (i := 209) rfl rfl
theorem gw_952 : (Jvm.Cond.methodLink "PennyMoreLaw" (69 : Nat) ({ cls := "PennyMore", name := "first", desc := "(I)I" } : Jvm.MethodName)) ∈ mm_G := mm_gi_4 (i := 24) rfl rfl
theorem gw_953 : (Jvm.Cond.instanceMethod ({ cls := "PennyMore", name := "first", desc := "(I)I" } : Jvm.MethodName)) ∈ mm_G := mm_gi_4 (i := 25) rfl rfl
theorem gw_954 : (Jvm.Cond.selects "PennyMore" ({ cls := "PennyMore", name := "first", desc := "(I)I" } : Jvm.MethodName) ({ cls := "PennyMore", name := "first", desc := "(I)I" } : Jvm.MethodName)) ∈ mm_G := mm_gi_4 (i := 26) rfl rfl
theorem gw_955 : (Jvm.Cond.methodLink "PennyMoreLaw" (72 : Nat) ({ cls := "PennyMoreModel", name := "first", desc := "(I)I" } : Jvm.MethodName)) ∈ mm_G := mm_gi_6 (i := 223) rfl rfl
theorem gw_956 : (Jvm.Cond.instanceMethod ({ cls := "PennyMoreModel", name := "first", desc := "(I)I" } : Jvm.MethodName)) ∈ mm_G := mm_gi_6 (i := 224) rfl rfl
theorem gw_957 : (Jvm.Cond.selects "PennyMoreModel" ({ cls := "PennyMoreModel", name := "first", desc := "(I)I" } : Jvm.MethodName) ({ cls := "PennyMoreModel", name := "first", desc := "(I)I" } : Jvm.MethodName)) ∈ mm_G := mm_gi_6 (i := 225) rfl rfl
theorem gw_958 : (Jvm.Cond.methodLink "PennyMoreLaw" (73 : Nat) ({ cls := "PennyMore", name := "order", desc := "(II)I" } : Jvm.MethodName)) ∈ mm_G := mm_gi_4 (i := 38) rfl rfl
theorem gw_959 : (Jvm.Cond.instanceMethod ({ cls := "PennyMore", name := "order", desc := "(II)I" } : Jvm.MethodName)) ∈ mm_G := mm_gi_4 (i := 39) rfl rfl
theorem gw_960 : (Jvm.Cond.selects "PennyMore" ({ cls := "PennyMore", name := "order", desc := "(II)I" } : Jvm.MethodName) ({ cls := "PennyMore", name := "order", desc := "(II)I" } : Jvm.MethodName)) ∈ mm_G := mm_gi_4 (i := 40) rfl rfl
theorem gw_961 : (Jvm.Cond.methodLink "PennyMoreLaw" (76 : Nat) ({ cls := "PennyMoreModel", name := "order", desc := "(II)I" } : Jvm.MethodName)) ∈ mm_G := mm_gi_6 (i := 231) rfl rfl
theorem gw_962 : (Jvm.Cond.instanceMethod ({ cls := "PennyMoreModel", name := "order", desc := "(II)I" } : Jvm.MethodName)) ∈ mm_G := mm_gi_6 (i := 232) rfl rfl
theorem gw_963 : (Jvm.Cond.selects "PennyMoreModel" ({ cls := "PennyMoreModel", name := "order", desc := "(II)I" } : Jvm.MethodName) ({ cls := "PennyMoreModel", name := "order", desc := "(II)I" } : Jvm.MethodName)) ∈ mm_G := mm_gi_6 (i := 233) rfl rfl
theorem gw_964 : (Jvm.Cond.methodLink "PennyMoreLaw" (77 : Nat) ({ cls := "PennyMore", name := "letBy", desc := "(I)I" } : Jvm.MethodName)) ∈ mm_G := mm_gi_4 (i := 63) rfl rfl
theorem gw_965 : (Jvm.Cond.instanceMethod ({ cls := "PennyMore", name := "letBy", desc := "(I)I" } : Jvm.MethodName)) ∈ mm_G := mm_gi_4 (i := 64) rfl rfl
theorem gw_966 : (Jvm.Cond.selects "PennyMore" ({ cls := "PennyMore", name := "letBy", desc := "(I)I" } : Jvm.MethodName) ({ cls := "PennyMore", name := "letBy", desc := "(I)I" } : Jvm.MethodName)) ∈ mm_G := mm_gi_4 (i := 65) rfl rfl
theorem gw_967 : (Jvm.Cond.methodLink "PennyMoreLaw" (80 : Nat) ({ cls := "PennyMoreModel", name := "letBy", desc := "(I)I" } : Jvm.MethodName)) ∈ mm_G := mm_gi_7 (i := 2) rfl rfl
theorem gw_968 : (Jvm.Cond.instanceMethod ({ cls := "PennyMoreModel", name := "letBy", desc := "(I)I" } : Jvm.MethodName)) ∈ mm_G := mm_gi_7 (i := 3) rfl rfl
theorem gw_969 : (Jvm.Cond.selects "PennyMoreModel" ({ cls := "PennyMoreModel", name := "letBy", desc := "(I)I" } : Jvm.MethodName) ({ cls := "PennyMoreModel", name := "letBy", desc := "(I)I" } : Jvm.MethodName)) ∈ mm_G := mm_gi_7 (i := 4) rfl rfl
theorem gw_970 : (Jvm.Cond.methodLink "PennyMoreLaw" (81 : Nat) ({ cls := "PennyMore", name := "lot", desc := "(I)J" } : Jvm.MethodName)) ∈ mm_G := mm_gi_4 (i := 71) rfl rfl
theorem gw_971 : (Jvm.Cond.instanceMethod ({ cls := "PennyMore", name := "lot", desc := "(I)J" } : Jvm.MethodName)) ∈ mm_G := mm_gi_4 (i := 72) rfl rfl
theorem gw_972 : (Jvm.Cond.selects "PennyMore" ({ cls := "PennyMore", name := "lot", desc := "(I)J" } : Jvm.MethodName) ({ cls := "PennyMore", name := "lot", desc := "(I)J" } : Jvm.MethodName)) ∈ mm_G := mm_gi_4 (i := 73) rfl rfl
theorem gw_973 : (Jvm.Cond.methodLink "PennyMoreLaw" (85 : Nat) ({ cls := "PennyMoreModel", name := "lot", desc := "(I)J" } : Jvm.MethodName)) ∈ mm_G := mm_gi_7 (i := 6) rfl rfl
theorem gw_974 : (Jvm.Cond.instanceMethod ({ cls := "PennyMoreModel", name := "lot", desc := "(I)J" } : Jvm.MethodName)) ∈ mm_G := mm_gi_7 (i := 7) rfl rfl
theorem gw_975 : (Jvm.Cond.selects "PennyMoreModel" ({ cls := "PennyMoreModel", name := "lot", desc := "(I)J" } : Jvm.MethodName) ({ cls := "PennyMoreModel", name := "lot", desc := "(I)J" } : Jvm.MethodName)) ∈ mm_G := mm_gi_7 (i := 8) rfl rfl
theorem gw_976 : (Jvm.Cond.methodLink "PennyMoreLaw" (86 : Nat) ({ cls := "PennyMore", name := "fee", desc := "()I" } : Jvm.MethodName)) ∈ mm_G := mm_gi_4 (i := 79) rfl rfl
theorem gw_977 : (Jvm.Cond.instanceMethod ({ cls := "PennyMore", name := "fee", desc := "()I" } : Jvm.MethodName)) ∈ mm_G := mm_gi_4 (i := 80) rfl rfl
theorem gw_978 : (Jvm.Cond.selects "PennyMore" ({ cls := "PennyMore", name := "fee", desc := "()I" } : Jvm.MethodName) ({ cls := "PennyMore", name := "fee", desc := "()I" } : Jvm.MethodName)) ∈ mm_G := mm_gi_4 (i := 81) rfl rfl
theorem gw_979 : (Jvm.Cond.methodLink "PennyMoreLaw" (89 : Nat) ({ cls := "PennyMoreModel", name := "fee", desc := "()I" } : Jvm.MethodName)) ∈ mm_G := mm_gi_7 (i := 14) rfl rfl
theorem gw_980 : (Jvm.Cond.instanceMethod ({ cls := "PennyMoreModel", name := "fee", desc := "()I" } : Jvm.MethodName)) ∈ mm_G := mm_gi_7 (i := 15) rfl rfl
theorem gw_981 : (Jvm.Cond.selects "PennyMoreModel" ({ cls := "PennyMoreModel", name := "fee", desc := "()I" } : Jvm.MethodName) ({ cls := "PennyMoreModel", name := "fee", desc := "()I" } : Jvm.MethodName)) ∈ mm_G := mm_gi_7 (i := 16) rfl rfl
theorem gw_982 : (Jvm.Cond.methodLink "PennyMoreLaw" (90 : Nat) ({ cls := "PennyMore", name := "onePrice", desc := "(I)I" } : Jvm.MethodName)) ∈ mm_G := mm_gi_4 (i := 87) rfl rfl
theorem gw_983 : (Jvm.Cond.instanceMethod ({ cls := "PennyMore", name := "onePrice", desc := "(I)I" } : Jvm.MethodName)) ∈ mm_G := mm_gi_4 (i := 88) rfl rfl
theorem gw_984 : (Jvm.Cond.selects "PennyMore" ({ cls := "PennyMore", name := "onePrice", desc := "(I)I" } : Jvm.MethodName) ({ cls := "PennyMore", name := "onePrice", desc := "(I)I" } : Jvm.MethodName)) ∈ mm_G := mm_gi_4 (i := 89) rfl rfl
theorem gw_985 : (Jvm.Cond.methodLink "PennyMoreLaw" (93 : Nat) ({ cls := "PennyMoreModel", name := "onePrice", desc := "(I)I" } : Jvm.MethodName)) ∈ mm_G := mm_gi_7 (i := 18) rfl rfl
theorem gw_986 : (Jvm.Cond.instanceMethod ({ cls := "PennyMoreModel", name := "onePrice", desc := "(I)I" } : Jvm.MethodName)) ∈ mm_G := mm_gi_7 (i := 19) rfl rfl
theorem gw_987 : (Jvm.Cond.selects "PennyMoreModel" ({ cls := "PennyMoreModel", name := "onePrice", desc := "(I)I" } : Jvm.MethodName) ({ cls := "PennyMoreModel", name := "onePrice", desc := "(I)I" } : Jvm.MethodName)) ∈ mm_G := mm_gi_7 (i := 20) rfl rfl
theorem gw_988 : (Jvm.Cond.methodLink "PennyMoreLaw" (94 : Nat) ({ cls := "PennyMore", name := "aunt", desc := "(I)I" } : Jvm.MethodName)) ∈ mm_G := mm_gi_4 (i := 96) rfl rfl
theorem gw_989 : (Jvm.Cond.instanceMethod ({ cls := "PennyMore", name := "aunt", desc := "(I)I" } : Jvm.MethodName)) ∈ mm_G := mm_gi_4 (i := 97) rfl rfl
theorem gw_990 : (Jvm.Cond.selects "PennyMore" ({ cls := "PennyMore", name := "aunt", desc := "(I)I" } : Jvm.MethodName) ({ cls := "PennyMore", name := "aunt", desc := "(I)I" } : Jvm.MethodName)) ∈ mm_G := mm_gi_4 (i := 98) rfl rfl
theorem gw_991 : (Jvm.Cond.methodLink "PennyMoreLaw" (97 : Nat) ({ cls := "PennyMoreModel", name := "aunt", desc := "(I)I" } : Jvm.MethodName)) ∈ mm_G := mm_gi_7 (i := 22) rfl rfl
theorem gw_992 : (Jvm.Cond.instanceMethod ({ cls := "PennyMoreModel", name := "aunt", desc := "(I)I" } : Jvm.MethodName)) ∈ mm_G := mm_gi_7 (i := 23) rfl rfl
theorem gw_993 : (Jvm.Cond.selects "PennyMoreModel" ({ cls := "PennyMoreModel", name := "aunt", desc := "(I)I" } : Jvm.MethodName) ({ cls := "PennyMoreModel", name := "aunt", desc := "(I)I" } : Jvm.MethodName)) ∈ mm_G := mm_gi_7 (i := 24) rfl rfl
theorem gw_994 : (Jvm.Cond.methodLink "PennyMoreLaw" (98 : Nat) ({ cls := "PennyMore", name := "slips", desc := "(I)I" } : Jvm.MethodName)) ∈ mm_G := mm_gi_4 (i := 102) rfl rfl
theorem gw_995 : (Jvm.Cond.instanceMethod ({ cls := "PennyMore", name := "slips", desc := "(I)I" } : Jvm.MethodName)) ∈ mm_G := mm_gi_4 (i := 103) rfl rfl
theorem gw_996 : (Jvm.Cond.selects "PennyMore" ({ cls := "PennyMore", name := "slips", desc := "(I)I" } : Jvm.MethodName) ({ cls := "PennyMore", name := "slips", desc := "(I)I" } : Jvm.MethodName)) ∈ mm_G := mm_gi_4 (i := 104) rfl rfl
theorem gw_997 : (Jvm.Cond.methodLink "PennyMoreLaw" (101 : Nat) ({ cls := "PennyMoreModel", name := "slips", desc := "(I)I" } : Jvm.MethodName)) ∈ mm_G := mm_gi_7 (i := 31) rfl rfl
theorem gw_998 : (Jvm.Cond.instanceMethod ({ cls := "PennyMoreModel", name := "slips", desc := "(I)I" } : Jvm.MethodName)) ∈ mm_G := mm_gi_7 (i := 32) rfl rfl
theorem gw_999 : (Jvm.Cond.selects "PennyMoreModel" ({ cls := "PennyMoreModel", name := "slips", desc := "(I)I" } : Jvm.MethodName) ({ cls := "PennyMoreModel", name := "slips", desc := "(I)I" } : Jvm.MethodName)) ∈ mm_G := mm_gi_7 (i := 33) rfl rfl
theorem gw_1000 : (Jvm.Cond.methodLink "PennyMoreLaw" (102 : Nat) ({ cls := "PennyMore", name := "sure", desc := "(II)J" } : Jvm.MethodName)) ∈ mm_G := mm_gi_4 (i := 106) rfl rfl
theorem gw_1001 : (Jvm.Cond.instanceMethod ({ cls := "PennyMore", name := "sure", desc := "(II)J" } : Jvm.MethodName)) ∈ mm_G := mm_gi_4 (i := 107) rfl rfl
theorem gw_1002 : (Jvm.Cond.selects "PennyMore" ({ cls := "PennyMore", name := "sure", desc := "(II)J" } : Jvm.MethodName) ({ cls := "PennyMore", name := "sure", desc := "(II)J" } : Jvm.MethodName)) ∈ mm_G := mm_gi_4 (i := 108) rfl rfl
theorem gw_1003 : (Jvm.Cond.methodLink "PennyMoreLaw" (106 : Nat) ({ cls := "PennyMoreModel", name := "sure", desc := "(II)J" } : Jvm.MethodName)) ∈ mm_G := mm_gi_7 (i := 35) rfl rfl
theorem gw_1004 : (Jvm.Cond.instanceMethod ({ cls := "PennyMoreModel", name := "sure", desc := "(II)J" } : Jvm.MethodName)) ∈ mm_G := mm_gi_7 (i := 36) rfl rfl
theorem gw_1005 : (Jvm.Cond.selects "PennyMoreModel" ({ cls := "PennyMoreModel", name := "sure", desc := "(II)J" } : Jvm.MethodName) ({ cls := "PennyMoreModel", name := "sure", desc := "(II)J" } : Jvm.MethodName)) ∈ mm_G := mm_gi_7 (i := 37) rfl rfl
theorem gw_1006 : (Jvm.Cond.methodLink "PennyMoreLaw" (107 : Nat) ({ cls := "PennyMore", name := "film", desc := "(I)I" } : Jvm.MethodName)) ∈ mm_G := mm_gi_4 (i := 118) rfl rfl
theorem gw_1007 : (Jvm.Cond.instanceMethod ({ cls := "PennyMore", name := "film", desc := "(I)I" } : Jvm.MethodName)) ∈ mm_G := mm_gi_4 (i := 119) rfl rfl
theorem gw_1008 : (Jvm.Cond.selects "PennyMore" ({ cls := "PennyMore", name := "film", desc := "(I)I" } : Jvm.MethodName) ({ cls := "PennyMore", name := "film", desc := "(I)I" } : Jvm.MethodName)) ∈ mm_G := mm_gi_4 (i := 120) rfl rfl
theorem gw_1009 : (Jvm.Cond.methodLink "PennyMoreLaw" (110 : Nat) ({ cls := "PennyMoreModel", name := "film", desc := "(I)I" } : Jvm.MethodName)) ∈ mm_G := mm_gi_7 (i := 53) rfl rfl
theorem gw_1010 : (Jvm.Cond.instanceMethod ({ cls := "PennyMoreModel", name := "film", desc := "(I)I" } : Jvm.MethodName)) ∈ mm_G := mm_gi_7 (i := 54) rfl rfl
theorem gw_1011 : (Jvm.Cond.selects "PennyMoreModel" ({ cls := "PennyMoreModel", name := "film", desc := "(I)I" } : Jvm.MethodName) ({ cls := "PennyMoreModel", name := "film", desc := "(I)I" } : Jvm.MethodName)) ∈ mm_G := mm_gi_7 (i := 55) rfl rfl
theorem gw_1012 : (Jvm.Cond.methodLink "PennyMoreLaw" (111 : Nat) ({ cls := "PennyMore", name := "off", desc := "()I" } : Jvm.MethodName)) ∈ mm_G := mm_gi_4 (i := 122) rfl rfl
theorem gw_1013 : (Jvm.Cond.instanceMethod ({ cls := "PennyMore", name := "off", desc := "()I" } : Jvm.MethodName)) ∈ mm_G := mm_gi_4 (i := 123) rfl rfl
theorem gw_1014 : (Jvm.Cond.selects "PennyMore" ({ cls := "PennyMore", name := "off", desc := "()I" } : Jvm.MethodName) ({ cls := "PennyMore", name := "off", desc := "()I" } : Jvm.MethodName)) ∈ mm_G := mm_gi_4 (i := 124) rfl rfl
theorem gw_1015 : (Jvm.Cond.methodLink "PennyMoreLaw" (114 : Nat) ({ cls := "PennyMoreModel", name := "off", desc := "()I" } : Jvm.MethodName)) ∈ mm_G := mm_gi_7 (i := 57) rfl rfl
theorem gw_1016 : (Jvm.Cond.instanceMethod ({ cls := "PennyMoreModel", name := "off", desc := "()I" } : Jvm.MethodName)) ∈ mm_G := mm_gi_7 (i := 58) rfl rfl
theorem gw_1017 : (Jvm.Cond.selects "PennyMoreModel" ({ cls := "PennyMoreModel", name := "off", desc := "()I" } : Jvm.MethodName) ({ cls := "PennyMoreModel", name := "off", desc := "()I" } : Jvm.MethodName)) ∈ mm_G := mm_gi_7 (i := 59) rfl rfl
theorem gw_1018 : (Jvm.Cond.methodLink "PennyMoreLaw" (115 : Nat) ({ cls := "PennyMore", name := "judge", desc := "(II)I" } : Jvm.MethodName)) ∈ mm_G := mm_gi_4 (i := 126) rfl rfl
theorem gw_1019 : (Jvm.Cond.instanceMethod ({ cls := "PennyMore", name := "judge", desc := "(II)I" } : Jvm.MethodName)) ∈ mm_G := mm_gi_4 (i := 127) rfl rfl
theorem gw_1020 : (Jvm.Cond.selects "PennyMore" ({ cls := "PennyMore", name := "judge", desc := "(II)I" } : Jvm.MethodName) ({ cls := "PennyMore", name := "judge", desc := "(II)I" } : Jvm.MethodName)) ∈ mm_G := mm_gi_4 (i := 128) rfl rfl
theorem gw_1021 : (Jvm.Cond.methodLink "PennyMoreLaw" (118 : Nat) ({ cls := "PennyMoreModel", name := "judge", desc := "(II)I" } : Jvm.MethodName)) ∈ mm_G := mm_gi_7 (i := 61) rfl rfl
theorem gw_1022 : (Jvm.Cond.instanceMethod ({ cls := "PennyMoreModel", name := "judge", desc := "(II)I" } : Jvm.MethodName)) ∈ mm_G := mm_gi_7 (i := 62) rfl rfl
theorem gw_1023 : (Jvm.Cond.selects "PennyMoreModel" ({ cls := "PennyMoreModel", name := "judge", desc := "(II)I" } : Jvm.MethodName) ({ cls := "PennyMoreModel", name := "judge", desc := "(II)I" } : Jvm.MethodName)) ∈ mm_G := mm_gi_7 (i := 63) rfl rfl
theorem gw_1024 : (Jvm.Cond.methodLink "PennyMoreLaw" (119 : Nat) ({ cls := "PennyMore", name := "image", desc := "()I" } : Jvm.MethodName)) ∈ mm_G := mm_gi_4 (i := 137) rfl rfl
theorem gw_1025 : (Jvm.Cond.instanceMethod ({ cls := "PennyMore", name := "image", desc := "()I" } : Jvm.MethodName)) ∈ mm_G := mm_gi_4 (i := 138) rfl rfl
theorem gw_1026 : (Jvm.Cond.selects "PennyMore" ({ cls := "PennyMore", name := "image", desc := "()I" } : Jvm.MethodName) ({ cls := "PennyMore", name := "image", desc := "()I" } : Jvm.MethodName)) ∈ mm_G := mm_gi_4 (i := 139) rfl rfl
theorem gw_1027 : (Jvm.Cond.methodLink "PennyMoreLaw" (122 : Nat) ({ cls := "PennyMoreModel", name := "image", desc := "()I" } : Jvm.MethodName)) ∈ mm_G := mm_gi_7 (i := 69) rfl rfl
theorem gw_1028 : (Jvm.Cond.instanceMethod ({ cls := "PennyMoreModel", name := "image", desc := "()I" } : Jvm.MethodName)) ∈ mm_G := mm_gi_7 (i := 70) rfl rfl
theorem gw_1029 : (Jvm.Cond.selects "PennyMoreModel" ({ cls := "PennyMoreModel", name := "image", desc := "()I" } : Jvm.MethodName) ({ cls := "PennyMoreModel", name := "image", desc := "()I" } : Jvm.MethodName)) ∈ mm_G := mm_gi_7 (i := 71) rfl rfl
theorem gw_1030 : (Jvm.Cond.methodLink "PennyMoreLaw" (123 : Nat) ({ cls := "PennyMore", name := "undo", desc := "()I" } : Jvm.MethodName)) ∈ mm_G := mm_gi_4 (i := 141) rfl rfl
theorem gw_1031 : (Jvm.Cond.instanceMethod ({ cls := "PennyMore", name := "undo", desc := "()I" } : Jvm.MethodName)) ∈ mm_G := mm_gi_4 (i := 142) rfl rfl
theorem gw_1032 : (Jvm.Cond.selects "PennyMore" ({ cls := "PennyMore", name := "undo", desc := "()I" } : Jvm.MethodName) ({ cls := "PennyMore", name := "undo", desc := "()I" } : Jvm.MethodName)) ∈ mm_G := mm_gi_4 (i := 143) rfl rfl
theorem gw_1033 : (Jvm.Cond.methodLink "PennyMoreLaw" (126 : Nat) ({ cls := "PennyMoreModel", name := "undo", desc := "()I" } : Jvm.MethodName)) ∈ mm_G := mm_gi_7 (i := 73) rfl rfl
theorem gw_1034 : (Jvm.Cond.instanceMethod ({ cls := "PennyMoreModel", name := "undo", desc := "()I" } : Jvm.MethodName)) ∈ mm_G := mm_gi_7 (i := 74) rfl rfl
theorem gw_1035 : (Jvm.Cond.selects "PennyMoreModel" ({ cls := "PennyMoreModel", name := "undo", desc := "()I" } : Jvm.MethodName) ({ cls := "PennyMoreModel", name := "undo", desc := "()I" } : Jvm.MethodName)) ∈ mm_G := mm_gi_7 (i := 75) rfl rfl
theorem gw_1036 : (Jvm.Cond.methodLink "PennyMoreLaw" (127 : Nat) ({ cls := "PennyMore", name := "act", desc := "(III)I" } : Jvm.MethodName)) ∈ mm_G := mm_gi_4 (i := 145) rfl rfl
theorem gw_1037 : (Jvm.Cond.instanceMethod ({ cls := "PennyMore", name := "act", desc := "(III)I" } : Jvm.MethodName)) ∈ mm_G := mm_gi_4 (i := 146) rfl rfl
theorem gw_1038 : (Jvm.Cond.selects "PennyMore" ({ cls := "PennyMore", name := "act", desc := "(III)I" } : Jvm.MethodName) ({ cls := "PennyMore", name := "act", desc := "(III)I" } : Jvm.MethodName)) ∈ mm_G := mm_gi_4 (i := 147) rfl rfl
theorem gw_1039 : (Jvm.Cond.methodLink "PennyMoreLaw" (130 : Nat) ({ cls := "PennyMoreModel", name := "act", desc := "(III)I" } : Jvm.MethodName)) ∈ mm_G := mm_gi_7 (i := 77) rfl rfl
theorem gw_1040 : (Jvm.Cond.instanceMethod ({ cls := "PennyMoreModel", name := "act", desc := "(III)I" } : Jvm.MethodName)) ∈ mm_G := mm_gi_7 (i := 78) rfl rfl
theorem gw_1041 : (Jvm.Cond.selects "PennyMoreModel" ({ cls := "PennyMoreModel", name := "act", desc := "(III)I" } : Jvm.MethodName) ({ cls := "PennyMoreModel", name := "act", desc := "(III)I" } : Jvm.MethodName)) ∈ mm_G := mm_gi_7 (i := 79) rfl rfl
theorem gw_1042 : (Jvm.Cond.methodLink "PennyMoreLaw" (131 : Nat) ({ cls := "PennyMore", name := "trace", desc := "(I)I" } : Jvm.MethodName)) ∈ mm_G := mm_gi_4 (i := 233) rfl rfl
theorem gw_1043 : (Jvm.Cond.instanceMethod ({ cls := "PennyMore", name := "trace", desc := "(I)I" } : Jvm.MethodName)) ∈ mm_G := mm_gi_4 (i := 234) rfl rfl
theorem gw_1044 : (Jvm.Cond.selects "PennyMore" ({ cls := "PennyMore", name := "trace", desc := "(I)I" } : Jvm.MethodName) ({ cls := "PennyMore", name := "trace", desc := "(I)I" } : Jvm.MethodName)) ∈ mm_G := mm_gi_4 (i := 235) rfl rfl
theorem gw_1045 : (Jvm.Cond.methodLink "PennyMoreLaw" (134 : Nat) ({ cls := "PennyMoreModel", name := "trace", desc := "(I)I" } : Jvm.MethodName)) ∈ mm_G := mm_gi_7 (i := 100) rfl rfl
theorem gw_1046 : (Jvm.Cond.instanceMethod ({ cls := "PennyMoreModel", name := "trace", desc := "(I)I" } : Jvm.MethodName)) ∈ mm_G := mm_gi_7 (i := 101) rfl rfl
theorem gw_1047 : (Jvm.Cond.selects "PennyMoreModel" ({ cls := "PennyMoreModel", name := "trace", desc := "(I)I" } : Jvm.MethodName) ({ cls := "PennyMoreModel", name := "trace", desc := "(I)I" } : Jvm.MethodName)) ∈ mm_G := mm_gi_7 (i := 102) rfl rfl
theorem gw_1048 : (Jvm.Cond.methodLink "PennyMoreLaw" (135 : Nat) ({ cls := "PennyMore", name := "taken", desc := "(II)I" } : Jvm.MethodName)) ∈ mm_G := mm_gi_4 (i := 237) rfl rfl
theorem gw_1049 : (Jvm.Cond.instanceMethod ({ cls := "PennyMore", name := "taken", desc := "(II)I" } : Jvm.MethodName)) ∈ mm_G := mm_gi_4 (i := 238) rfl rfl
