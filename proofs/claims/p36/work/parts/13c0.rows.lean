/-! X1_init -/
theorem dd6_0 : (decode prog_3_method_1_code 0 = .ok (.aload_n 0, 1)) ∧ (decode prog_3_method_1_code 1 = .ok (.invokespecial 3, 3)) ∧ (decode prog_3_method_1_code 4 = .ok (.aload_n 0, 1)) ∧ (decode prog_3_method_1_code 5 = .ok (.bipush 6, 2)) ∧ (decode prog_3_method_1_code 7 = .ok (.anewarray 9, 3)) ∧ (decode prog_3_method_1_code 10 = .ok (.putfield 11, 3)) ∧ (decode prog_3_method_1_code 13 = .ok (.aload_n 0, 1)) ∧ (decode prog_3_method_1_code 14 = .ok (.bipush 6, 2)) ∧ (decode prog_3_method_1_code 16 = .ok (.newarray .int, 2)) ∧ (decode prog_3_method_1_code 18 = .ok (.putfield 17, 3)) ∧ (decode prog_3_method_1_code 21 = .ok (.aload_n 0, 1)) ∧ (decode prog_3_method_1_code 22 = .ok (.bipush 18, 2)) ∧ (decode prog_3_method_1_code 24 = .ok (.newarray .int, 2)) ∧ (decode prog_3_method_1_code 26 = .ok (.putfield 21, 3)) ∧ (decode prog_3_method_1_code 29 = .ok (.aload_n 0, 1)) ∧ (decode prog_3_method_1_code 30 = .ok (.bipush 6, 2)) := by decide +kernel
theorem d6_0 : decode prog_3_method_1_code 0 = .ok (.aload_n 0, 1) := dd6_0.1
theorem d6_1 : decode prog_3_method_1_code 1 = .ok (.invokespecial 3, 3) := dd6_0.2.1
theorem d6_4 : decode prog_3_method_1_code 4 = .ok (.aload_n 0, 1) := dd6_0.2.2.1
theorem d6_5 : decode prog_3_method_1_code 5 = .ok (.bipush 6, 2) := dd6_0.2.2.2.1
theorem d6_7 : decode prog_3_method_1_code 7 = .ok (.anewarray 9, 3) := dd6_0.2.2.2.2.1
theorem d6_10 : decode prog_3_method_1_code 10 = .ok (.putfield 11, 3) := dd6_0.2.2.2.2.2.1
theorem d6_13 : decode prog_3_method_1_code 13 = .ok (.aload_n 0, 1) := dd6_0.2.2.2.2.2.2.1
theorem d6_14 : decode prog_3_method_1_code 14 = .ok (.bipush 6, 2) := dd6_0.2.2.2.2.2.2.2.1
theorem d6_16 : decode prog_3_method_1_code 16 = .ok (.newarray .int, 2) := dd6_0.2.2.2.2.2.2.2.2.1
theorem d6_18 : decode prog_3_method_1_code 18 = .ok (.putfield 17, 3) := dd6_0.2.2.2.2.2.2.2.2.2.1
theorem d6_21 : decode prog_3_method_1_code 21 = .ok (.aload_n 0, 1) := dd6_0.2.2.2.2.2.2.2.2.2.2.1
theorem d6_22 : decode prog_3_method_1_code 22 = .ok (.bipush 18, 2) := dd6_0.2.2.2.2.2.2.2.2.2.2.2.1
theorem d6_24 : decode prog_3_method_1_code 24 = .ok (.newarray .int, 2) := dd6_0.2.2.2.2.2.2.2.2.2.2.2.2.1
theorem d6_26 : decode prog_3_method_1_code 26 = .ok (.putfield 21, 3) := dd6_0.2.2.2.2.2.2.2.2.2.2.2.2.2.1
theorem d6_29 : decode prog_3_method_1_code 29 = .ok (.aload_n 0, 1) := dd6_0.2.2.2.2.2.2.2.2.2.2.2.2.2.2.1
theorem d6_30 : decode prog_3_method_1_code 30 = .ok (.bipush 6, 2) := dd6_0.2.2.2.2.2.2.2.2.2.2.2.2.2.2.2
theorem dd6_32 : (decode prog_3_method_1_code 32 = .ok (.newarray .int, 2)) ∧ (decode prog_3_method_1_code 34 = .ok (.putfield 24, 3)) ∧ (decode prog_3_method_1_code 37 = .ok (.aload_n 0, 1)) ∧ (decode prog_3_method_1_code 38 = .ok (.bipush 6, 2)) ∧ (decode prog_3_method_1_code 40 = .ok (.newarray .int, 2)) ∧ (decode prog_3_method_1_code 42 = .ok (.putfield 27, 3)) ∧ (decode prog_3_method_1_code 45 = .ok (.aload_n 0, 1)) ∧ (decode prog_3_method_1_code 46 = .ok (.bipush 6, 2)) ∧ (decode prog_3_method_1_code 48 = .ok (.newarray .int, 2)) ∧ (decode prog_3_method_1_code 50 = .ok (.putfield 30, 3)) ∧ (decode prog_3_method_1_code 53 = .ok (.aload_n 0, 1)) ∧ (decode prog_3_method_1_code 54 = .ok (.bipush 12, 2)) ∧ (decode prog_3_method_1_code 56 = .ok (.newarray .int, 2)) ∧ (decode prog_3_method_1_code 58 = .ok (.putfield 33, 3)) ∧ (decode prog_3_method_1_code 61 = .ok (.aload_n 0, 1)) ∧ (decode prog_3_method_1_code 62 = .ok (.bipush 7, 2)) := by decide +kernel
theorem d6_32 : decode prog_3_method_1_code 32 = .ok (.newarray .int, 2) := dd6_32.1
theorem d6_34 : decode prog_3_method_1_code 34 = .ok (.putfield 24, 3) := dd6_32.2.1
theorem d6_37 : decode prog_3_method_1_code 37 = .ok (.aload_n 0, 1) := dd6_32.2.2.1
theorem d6_38 : decode prog_3_method_1_code 38 = .ok (.bipush 6, 2) := dd6_32.2.2.2.1
theorem d6_40 : decode prog_3_method_1_code 40 = .ok (.newarray .int, 2) := dd6_32.2.2.2.2.1
theorem d6_42 : decode prog_3_method_1_code 42 = .ok (.putfield 27, 3) := dd6_32.2.2.2.2.2.1
theorem d6_45 : decode prog_3_method_1_code 45 = .ok (.aload_n 0, 1) := dd6_32.2.2.2.2.2.2.1
theorem d6_46 : decode prog_3_method_1_code 46 = .ok (.bipush 6, 2) := dd6_32.2.2.2.2.2.2.2.1
theorem d6_48 : decode prog_3_method_1_code 48 = .ok (.newarray .int, 2) := dd6_32.2.2.2.2.2.2.2.2.1
theorem d6_50 : decode prog_3_method_1_code 50 = .ok (.putfield 30, 3) := dd6_32.2.2.2.2.2.2.2.2.2.1
theorem d6_53 : decode prog_3_method_1_code 53 = .ok (.aload_n 0, 1) := dd6_32.2.2.2.2.2.2.2.2.2.2.1
theorem d6_54 : decode prog_3_method_1_code 54 = .ok (.bipush 12, 2) := dd6_32.2.2.2.2.2.2.2.2.2.2.2.1
theorem d6_56 : decode prog_3_method_1_code 56 = .ok (.newarray .int, 2) := dd6_32.2.2.2.2.2.2.2.2.2.2.2.2.1
theorem d6_58 : decode prog_3_method_1_code 58 = .ok (.putfield 33, 3) := dd6_32.2.2.2.2.2.2.2.2.2.2.2.2.2.1
theorem d6_61 : decode prog_3_method_1_code 61 = .ok (.aload_n 0, 1) := dd6_32.2.2.2.2.2.2.2.2.2.2.2.2.2.2.1
theorem d6_62 : decode prog_3_method_1_code 62 = .ok (.bipush 7, 2) := dd6_32.2.2.2.2.2.2.2.2.2.2.2.2.2.2.2
theorem dd6_64 : (decode prog_3_method_1_code 64 = .ok (.newarray .int, 2)) ∧ (decode prog_3_method_1_code 66 = .ok (.putfield 38, 3)) ∧ (decode prog_3_method_1_code 69 = .ok (.aload_n 0, 1)) ∧ (decode prog_3_method_1_code 70 = .ok (.iconst 1, 1)) ∧ (decode prog_3_method_1_code 71 = .ok (.putfield 41, 3)) ∧ (decode prog_3_method_1_code 74 = .ok (.aload_n 0, 1)) ∧ (decode prog_3_method_1_code 75 = .ok (.iconst 5, 1)) ∧ (decode prog_3_method_1_code 76 = .ok (.putfield 45, 3)) ∧ (decode prog_3_method_1_code 79 = .ok (.aload_n 0, 1)) ∧ (decode prog_3_method_1_code 80 = .ok (.aload_n 1, 1)) ∧ (decode prog_3_method_1_code 81 = .ok (.putfield 48, 3)) ∧ (decode prog_3_method_1_code 84 = .ok (.aload_n 0, 1)) ∧ (decode prog_3_method_1_code 85 = .ok (.aload_n 1, 1)) ∧ (decode prog_3_method_1_code 86 = .ok (.getfield 52, 3)) ∧ (decode prog_3_method_1_code 89 = .ok (.putfield 55, 3)) ∧ (decode prog_3_method_1_code 92 = .ok (.return_, 1)) := by decide +kernel
theorem d6_64 : decode prog_3_method_1_code 64 = .ok (.newarray .int, 2) := dd6_64.1
theorem d6_66 : decode prog_3_method_1_code 66 = .ok (.putfield 38, 3) := dd6_64.2.1
theorem d6_69 : decode prog_3_method_1_code 69 = .ok (.aload_n 0, 1) := dd6_64.2.2.1
theorem d6_70 : decode prog_3_method_1_code 70 = .ok (.iconst 1, 1) := dd6_64.2.2.2.1
theorem d6_71 : decode prog_3_method_1_code 71 = .ok (.putfield 41, 3) := dd6_64.2.2.2.2.1
theorem d6_74 : decode prog_3_method_1_code 74 = .ok (.aload_n 0, 1) := dd6_64.2.2.2.2.2.1
theorem d6_75 : decode prog_3_method_1_code 75 = .ok (.iconst 5, 1) := dd6_64.2.2.2.2.2.2.1
theorem d6_76 : decode prog_3_method_1_code 76 = .ok (.putfield 45, 3) := dd6_64.2.2.2.2.2.2.2.1
theorem d6_79 : decode prog_3_method_1_code 79 = .ok (.aload_n 0, 1) := dd6_64.2.2.2.2.2.2.2.2.1
theorem d6_80 : decode prog_3_method_1_code 80 = .ok (.aload_n 1, 1) := dd6_64.2.2.2.2.2.2.2.2.2.1
theorem d6_81 : decode prog_3_method_1_code 81 = .ok (.putfield 48, 3) := dd6_64.2.2.2.2.2.2.2.2.2.2.1
theorem d6_84 : decode prog_3_method_1_code 84 = .ok (.aload_n 0, 1) := dd6_64.2.2.2.2.2.2.2.2.2.2.2.1
theorem d6_85 : decode prog_3_method_1_code 85 = .ok (.aload_n 1, 1) := dd6_64.2.2.2.2.2.2.2.2.2.2.2.2.1
theorem d6_86 : decode prog_3_method_1_code 86 = .ok (.getfield 52, 3) := dd6_64.2.2.2.2.2.2.2.2.2.2.2.2.2.1
theorem d6_89 : decode prog_3_method_1_code 89 = .ok (.putfield 55, 3) := dd6_64.2.2.2.2.2.2.2.2.2.2.2.2.2.2.1
theorem d6_92 : decode prog_3_method_1_code 92 = .ok (.return_, 1) := dd6_64.2.2.2.2.2.2.2.2.2.2.2.2.2.2.2
theorem b6_0 {d : Nat} {S : mm_S} {a0 : Nat} {a1 : Nat} (h0 : (!decide (nI 6 < 0) && decide ((nI 6).toNatClampNeg ≤ 1000) && decide (mm_n S < 1000000)) = true) : mm_ex (d + 1) 6 0 [.ref a0, .ref a1] [] S =
    mm_ex (d + 1) 6 10 [.ref a0, .ref a1] [.ref (mm_n S), .ref a0] (mm_nw S 16 (nI 6).toNatClampNeg) :=
  Eq.trans (mx_aload_n t6 d6_0 (x := a0) rfl) <|
  Eq.trans (mx_oinit t6 d6_1 oi1_3 (Nat.le_of_ble_eq_true rfl)) <|
  Eq.trans (mx_aload_n t6 d6_4 (x := a0) rfl) <|
  Eq.trans (mx_bipush t6 d6_5 (v := nI 6) rfl) <|
  (mx_newq t6 d6_7 (k := 16) an1_9 h0)
theorem b6_10 {d : Nat} {S : mm_S} {a0 : Nat} {a1 : Nat} {p0 : Nat} {p1 : Nat} (h0 : mm_obj S p1 1 = true) (h1 : p0 < mm_n S) : mm_ex d 6 10 [.ref a0, .ref a1] [.ref p0, .ref p1] S =
    mm_ex d 6 16 [.ref a0, .ref a1] [.int (nI 6), .ref a0] (mm_uR S p1 0 (some p0)) :=
  Eq.trans (mx_putr2 t6 d6_10 fl1_11 rfl h0 h1) <|
  Eq.trans (mx_aload_n t6 d6_13 (x := a0) rfl) <|
  (mx_bipush t6 d6_14 (v := nI 6) rfl)
theorem b6_16 {d : Nat} {S : mm_S} {a0 : Nat} {a1 : Nat} {p0 : Int32} {p1 : Nat} (h0 : (!decide (p0 < 0) && decide ((p0).toNatClampNeg ≤ 1000) && decide (mm_n S < 1000000)) = true) : mm_ex d 6 16 [.ref a0, .ref a1] [.int p0, .ref p1] S =
    mm_ex d 6 18 [.ref a0, .ref a1] [.ref (mm_n S), .ref p1] (mm_nw S 13 (p0).toNatClampNeg) :=
  (mx_newi t6 d6_16 h0)
theorem b6_18 {d : Nat} {S : mm_S} {a0 : Nat} {a1 : Nat} {p0 : Nat} {p1 : Nat} (h0 : mm_obj S p1 1 = true) (h1 : p0 < mm_n S) : mm_ex d 6 18 [.ref a0, .ref a1] [.ref p0, .ref p1] S =
    mm_ex d 6 24 [.ref a0, .ref a1] [.int (nI 18), .ref a0] (mm_uR S p1 1 (some p0)) :=
  Eq.trans (mx_putr2 t6 d6_18 fl1_17 rfl h0 h1) <|
  Eq.trans (mx_aload_n t6 d6_21 (x := a0) rfl) <|
  (mx_bipush t6 d6_22 (v := nI 18) rfl)
theorem b6_24 {d : Nat} {S : mm_S} {a0 : Nat} {a1 : Nat} {p0 : Int32} {p1 : Nat} (h0 : (!decide (p0 < 0) && decide ((p0).toNatClampNeg ≤ 1000) && decide (mm_n S < 1000000)) = true) : mm_ex d 6 24 [.ref a0, .ref a1] [.int p0, .ref p1] S =
    mm_ex d 6 26 [.ref a0, .ref a1] [.ref (mm_n S), .ref p1] (mm_nw S 13 (p0).toNatClampNeg) :=
  (mx_newi t6 d6_24 h0)
theorem b6_26 {d : Nat} {S : mm_S} {a0 : Nat} {a1 : Nat} {p0 : Nat} {p1 : Nat} (h0 : mm_obj S p1 1 = true) (h1 : p0 < mm_n S) : mm_ex d 6 26 [.ref a0, .ref a1] [.ref p0, .ref p1] S =
    mm_ex d 6 32 [.ref a0, .ref a1] [.int (nI 6), .ref a0] (mm_uR S p1 2 (some p0)) :=
  Eq.trans (mx_putr2 t6 d6_26 fl1_21 rfl h0 h1) <|
  Eq.trans (mx_aload_n t6 d6_29 (x := a0) rfl) <|
  (mx_bipush t6 d6_30 (v := nI 6) rfl)
theorem b6_32 {d : Nat} {S : mm_S} {a0 : Nat} {a1 : Nat} {p0 : Int32} {p1 : Nat} (h0 : (!decide (p0 < 0) && decide ((p0).toNatClampNeg ≤ 1000) && decide (mm_n S < 1000000)) = true) : mm_ex d 6 32 [.ref a0, .ref a1] [.int p0, .ref p1] S =
    mm_ex d 6 34 [.ref a0, .ref a1] [.ref (mm_n S), .ref p1] (mm_nw S 13 (p0).toNatClampNeg) :=
  (mx_newi t6 d6_32 h0)
theorem b6_34 {d : Nat} {S : mm_S} {a0 : Nat} {a1 : Nat} {p0 : Nat} {p1 : Nat} (h0 : mm_obj S p1 1 = true) (h1 : p0 < mm_n S) : mm_ex d 6 34 [.ref a0, .ref a1] [.ref p0, .ref p1] S =
    mm_ex d 6 40 [.ref a0, .ref a1] [.int (nI 6), .ref a0] (mm_uR S p1 3 (some p0)) :=
  Eq.trans (mx_putr2 t6 d6_34 fl1_24 rfl h0 h1) <|
  Eq.trans (mx_aload_n t6 d6_37 (x := a0) rfl) <|
  (mx_bipush t6 d6_38 (v := nI 6) rfl)
theorem b6_40 {d : Nat} {S : mm_S} {a0 : Nat} {a1 : Nat} {p0 : Int32} {p1 : Nat} (h0 : (!decide (p0 < 0) && decide ((p0).toNatClampNeg ≤ 1000) && decide (mm_n S < 1000000)) = true) : mm_ex d 6 40 [.ref a0, .ref a1] [.int p0, .ref p1] S =
    mm_ex d 6 42 [.ref a0, .ref a1] [.ref (mm_n S), .ref p1] (mm_nw S 13 (p0).toNatClampNeg) :=
  (mx_newi t6 d6_40 h0)
theorem b6_42 {d : Nat} {S : mm_S} {a0 : Nat} {a1 : Nat} {p0 : Nat} {p1 : Nat} (h0 : mm_obj S p1 1 = true) (h1 : p0 < mm_n S) : mm_ex d 6 42 [.ref a0, .ref a1] [.ref p0, .ref p1] S =
    mm_ex d 6 48 [.ref a0, .ref a1] [.int (nI 6), .ref a0] (mm_uR S p1 4 (some p0)) :=
  Eq.trans (mx_putr2 t6 d6_42 fl1_27 rfl h0 h1) <|
  Eq.trans (mx_aload_n t6 d6_45 (x := a0) rfl) <|
  (mx_bipush t6 d6_46 (v := nI 6) rfl)
theorem b6_48 {d : Nat} {S : mm_S} {a0 : Nat} {a1 : Nat} {p0 : Int32} {p1 : Nat} (h0 : (!decide (p0 < 0) && decide ((p0).toNatClampNeg ≤ 1000) && decide (mm_n S < 1000000)) = true) : mm_ex d 6 48 [.ref a0, .ref a1] [.int p0, .ref p1] S =
    mm_ex d 6 50 [.ref a0, .ref a1] [.ref (mm_n S), .ref p1] (mm_nw S 13 (p0).toNatClampNeg) :=
  (mx_newi t6 d6_48 h0)
theorem b6_50 {d : Nat} {S : mm_S} {a0 : Nat} {a1 : Nat} {p0 : Nat} {p1 : Nat} (h0 : mm_obj S p1 1 = true) (h1 : p0 < mm_n S) : mm_ex d 6 50 [.ref a0, .ref a1] [.ref p0, .ref p1] S =
    mm_ex d 6 56 [.ref a0, .ref a1] [.int (nI 12), .ref a0] (mm_uR S p1 5 (some p0)) :=
  Eq.trans (mx_putr2 t6 d6_50 fl1_30 rfl h0 h1) <|
  Eq.trans (mx_aload_n t6 d6_53 (x := a0) rfl) <|
  (mx_bipush t6 d6_54 (v := nI 12) rfl)
theorem b6_56 {d : Nat} {S : mm_S} {a0 : Nat} {a1 : Nat} {p0 : Int32} {p1 : Nat} (h0 : (!decide (p0 < 0) && decide ((p0).toNatClampNeg ≤ 1000) && decide (mm_n S < 1000000)) = true) : mm_ex d 6 56 [.ref a0, .ref a1] [.int p0, .ref p1] S =
    mm_ex d 6 58 [.ref a0, .ref a1] [.ref (mm_n S), .ref p1] (mm_nw S 13 (p0).toNatClampNeg) :=
  (mx_newi t6 d6_56 h0)
theorem b6_58 {d : Nat} {S : mm_S} {a0 : Nat} {a1 : Nat} {p0 : Nat} {p1 : Nat} (h0 : mm_obj S p1 1 = true) (h1 : p0 < mm_n S) : mm_ex d 6 58 [.ref a0, .ref a1] [.ref p0, .ref p1] S =
    mm_ex d 6 64 [.ref a0, .ref a1] [.int (nI 7), .ref a0] (mm_uR S p1 6 (some p0)) :=
  Eq.trans (mx_putr2 t6 d6_58 fl1_33 rfl h0 h1) <|
  Eq.trans (mx_aload_n t6 d6_61 (x := a0) rfl) <|
  (mx_bipush t6 d6_62 (v := nI 7) rfl)
theorem b6_64 {d : Nat} {S : mm_S} {a0 : Nat} {a1 : Nat} {p0 : Int32} {p1 : Nat} (h0 : (!decide (p0 < 0) && decide ((p0).toNatClampNeg ≤ 1000) && decide (mm_n S < 1000000)) = true) : mm_ex d 6 64 [.ref a0, .ref a1] [.int p0, .ref p1] S =
    mm_ex d 6 66 [.ref a0, .ref a1] [.ref (mm_n S), .ref p1] (mm_nw S 13 (p0).toNatClampNeg) :=
  (mx_newi t6 d6_64 h0)
theorem b6_66 {d : Nat} {S : mm_S} {a0 : Nat} {a1 : Nat} {p0 : Nat} {p1 : Nat} (h0 : mm_obj S p1 1 = true) (h1 : p0 < mm_n S) (h2 : mm_obj S a0 1 = true) (h3 : a1 < mm_n S) : mm_ex d 6 66 [.ref a0, .ref a1] [.ref p0, .ref p1] S =
    mm_ex d 6 86 [.ref a0, .ref a1] [.ref a1, .ref a0] (mm_uR (mm_uM (mm_uM (mm_uR S p1 7 (some p0)) a0 12 (nI 1)) a0 13 (nI 5)) a0 8 (some a1)) :=
  Eq.trans (mx_putr2 t6 d6_66 fl1_38 rfl h0 h1) <|
  Eq.trans (mx_aload_n t6 d6_69 (x := a0) rfl) <|
  Eq.trans (mx_iconst t6 d6_70 (v := nI 1) rfl) <|
  Eq.trans (mx_puti2 t6 d6_71 fl1_41 rfl h2) <|
  Eq.trans (mx_aload_n t6 d6_74 (x := a0) rfl) <|
  Eq.trans (mx_iconst t6 d6_75 (v := nI 5) rfl) <|
  Eq.trans (mx_puti2 t6 d6_76 fl1_45 rfl h2) <|
  Eq.trans (mx_aload_n t6 d6_79 (x := a0) rfl) <|
  Eq.trans (mx_aload_n t6 d6_80 (x := a1) rfl) <|
  Eq.trans (mx_putr2 t6 d6_81 fl1_48 rfl h2 h3) <|
  Eq.trans (mx_aload_n t6 d6_84 (x := a0) rfl) <|
  (mx_aload_n t6 d6_85 (x := a1) rfl)
theorem b6_86 {d : Nat} {S : mm_S} {a0 : Nat} {a1 : Nat} {p0 : Nat} {p1 : Nat} (h0 : mm_obj S p0 6 = true) (h1 : mm_obj S p1 1 = true) : mm_ex d 6 86 [.ref a0, .ref a1] [.ref p0, .ref p1] S =
    some (none, (mm_uM S p1 9 (mm_M S p0 3))) :=
  Eq.trans (mx_geti t6 d6_86 rfl fl1_52 h0) <|
  Eq.trans (mx_puti2 t6 d6_89 fl1_55 rfl h1) <|
  (mx_vret t6 d6_92 rfl)
theorem e6 {d : Nat} {S : mm_S} {a0 : Nat} {a1 : Nat} : mm_cl d 6 [.ref a0, .ref a1] S = mm_ex d 6 0 [.ref a0, .ref a1] [] S := mm_cl_eq t6 (Nat.le_of_ble_eq_true rfl) rfl
/-! X1_copyOf -/
theorem dd7_0 : (decode prog_3_method_2_code 0 = .ok (.iconst 0, 1)) ∧ (decode prog_3_method_2_code 1 = .ok (.istore_n 2, 1)) ∧ (decode prog_3_method_2_code 2 = .ok (.iload_n 2, 1)) ∧ (decode prog_3_method_2_code 3 = .ok (.bipush 6, 2)) ∧ (decode prog_3_method_2_code 5 = .ok (.if_icmp .ge 21, 3)) ∧ (decode prog_3_method_2_code 8 = .ok (.aload_n 0, 1)) ∧ (decode prog_3_method_2_code 9 = .ok (.getfield 11, 3)) ∧ (decode prog_3_method_2_code 12 = .ok (.iload_n 2, 1)) ∧ (decode prog_3_method_2_code 13 = .ok (.aload_n 1, 1)) ∧ (decode prog_3_method_2_code 14 = .ok (.getfield 11, 3)) ∧ (decode prog_3_method_2_code 17 = .ok (.iload_n 2, 1)) ∧ (decode prog_3_method_2_code 18 = .ok (.aaload, 1)) ∧ (decode prog_3_method_2_code 19 = .ok (.aastore, 1)) ∧ (decode prog_3_method_2_code 20 = .ok (.iinc 2 1, 3)) ∧ (decode prog_3_method_2_code 23 = .ok (.goto (-21), 3)) ∧ (decode prog_3_method_2_code 26 = .ok (.aload_n 1, 1)) := by decide +kernel
theorem d7_0 : decode prog_3_method_2_code 0 = .ok (.iconst 0, 1) := dd7_0.1
theorem d7_1 : decode prog_3_method_2_code 1 = .ok (.istore_n 2, 1) := dd7_0.2.1
theorem d7_2 : decode prog_3_method_2_code 2 = .ok (.iload_n 2, 1) := dd7_0.2.2.1
theorem d7_3 : decode prog_3_method_2_code 3 = .ok (.bipush 6, 2) := dd7_0.2.2.2.1
theorem d7_5 : decode prog_3_method_2_code 5 = .ok (.if_icmp .ge 21, 3) := dd7_0.2.2.2.2.1
theorem d7_8 : decode prog_3_method_2_code 8 = .ok (.aload_n 0, 1) := dd7_0.2.2.2.2.2.1
theorem d7_9 : decode prog_3_method_2_code 9 = .ok (.getfield 11, 3) := dd7_0.2.2.2.2.2.2.1
theorem d7_12 : decode prog_3_method_2_code 12 = .ok (.iload_n 2, 1) := dd7_0.2.2.2.2.2.2.2.1
theorem d7_13 : decode prog_3_method_2_code 13 = .ok (.aload_n 1, 1) := dd7_0.2.2.2.2.2.2.2.2.1
theorem d7_14 : decode prog_3_method_2_code 14 = .ok (.getfield 11, 3) := dd7_0.2.2.2.2.2.2.2.2.2.1
theorem d7_17 : decode prog_3_method_2_code 17 = .ok (.iload_n 2, 1) := dd7_0.2.2.2.2.2.2.2.2.2.2.1
theorem d7_18 : decode prog_3_method_2_code 18 = .ok (.aaload, 1) := dd7_0.2.2.2.2.2.2.2.2.2.2.2.1
theorem d7_19 : decode prog_3_method_2_code 19 = .ok (.aastore, 1) := dd7_0.2.2.2.2.2.2.2.2.2.2.2.2.1
theorem d7_20 : decode prog_3_method_2_code 20 = .ok (.iinc 2 1, 3) := dd7_0.2.2.2.2.2.2.2.2.2.2.2.2.2.1
theorem d7_23 : decode prog_3_method_2_code 23 = .ok (.goto (-21), 3) := dd7_0.2.2.2.2.2.2.2.2.2.2.2.2.2.2.1
theorem d7_26 : decode prog_3_method_2_code 26 = .ok (.aload_n 1, 1) := dd7_0.2.2.2.2.2.2.2.2.2.2.2.2.2.2.2
theorem dd7_27 : (decode prog_3_method_2_code 27 = .ok (.getfield 17, 3)) ∧ (decode prog_3_method_2_code 30 = .ok (.iconst 0, 1)) ∧ (decode prog_3_method_2_code 31 = .ok (.aload_n 0, 1)) ∧ (decode prog_3_method_2_code 32 = .ok (.getfield 17, 3)) ∧ (decode prog_3_method_2_code 35 = .ok (.iconst 0, 1)) ∧ (decode prog_3_method_2_code 36 = .ok (.bipush 6, 2)) ∧ (decode prog_3_method_2_code 38 = .ok (.invokestatic 56, 3)) ∧ (decode prog_3_method_2_code 41 = .ok (.aload_n 1, 1)) ∧ (decode prog_3_method_2_code 42 = .ok (.getfield 21, 3)) ∧ (decode prog_3_method_2_code 45 = .ok (.iconst 0, 1)) ∧ (decode prog_3_method_2_code 46 = .ok (.aload_n 0, 1)) ∧ (decode prog_3_method_2_code 47 = .ok (.getfield 21, 3)) ∧ (decode prog_3_method_2_code 50 = .ok (.iconst 0, 1)) ∧ (decode prog_3_method_2_code 51 = .ok (.bipush 18, 2)) ∧ (decode prog_3_method_2_code 53 = .ok (.invokestatic 56, 3)) ∧ (decode prog_3_method_2_code 56 = .ok (.aload_n 1, 1)) := by decide +kernel
theorem d7_27 : decode prog_3_method_2_code 27 = .ok (.getfield 17, 3) := dd7_27.1
theorem d7_30 : decode prog_3_method_2_code 30 = .ok (.iconst 0, 1) := dd7_27.2.1
theorem d7_31 : decode prog_3_method_2_code 31 = .ok (.aload_n 0, 1) := dd7_27.2.2.1
theorem d7_32 : decode prog_3_method_2_code 32 = .ok (.getfield 17, 3) := dd7_27.2.2.2.1
theorem d7_35 : decode prog_3_method_2_code 35 = .ok (.iconst 0, 1) := dd7_27.2.2.2.2.1
theorem d7_36 : decode prog_3_method_2_code 36 = .ok (.bipush 6, 2) := dd7_27.2.2.2.2.2.1
theorem d7_38 : decode prog_3_method_2_code 38 = .ok (.invokestatic 56, 3) := dd7_27.2.2.2.2.2.2.1
theorem d7_41 : decode prog_3_method_2_code 41 = .ok (.aload_n 1, 1) := dd7_27.2.2.2.2.2.2.2.1
theorem d7_42 : decode prog_3_method_2_code 42 = .ok (.getfield 21, 3) := dd7_27.2.2.2.2.2.2.2.2.1
theorem d7_45 : decode prog_3_method_2_code 45 = .ok (.iconst 0, 1) := dd7_27.2.2.2.2.2.2.2.2.2.1
theorem d7_46 : decode prog_3_method_2_code 46 = .ok (.aload_n 0, 1) := dd7_27.2.2.2.2.2.2.2.2.2.2.1
theorem d7_47 : decode prog_3_method_2_code 47 = .ok (.getfield 21, 3) := dd7_27.2.2.2.2.2.2.2.2.2.2.2.1
theorem d7_50 : decode prog_3_method_2_code 50 = .ok (.iconst 0, 1) := dd7_27.2.2.2.2.2.2.2.2.2.2.2.2.1
theorem d7_51 : decode prog_3_method_2_code 51 = .ok (.bipush 18, 2) := dd7_27.2.2.2.2.2.2.2.2.2.2.2.2.2.1
theorem d7_53 : decode prog_3_method_2_code 53 = .ok (.invokestatic 56, 3) := dd7_27.2.2.2.2.2.2.2.2.2.2.2.2.2.2.1
theorem d7_56 : decode prog_3_method_2_code 56 = .ok (.aload_n 1, 1) := dd7_27.2.2.2.2.2.2.2.2.2.2.2.2.2.2.2
theorem dd7_57 : (decode prog_3_method_2_code 57 = .ok (.getfield 24, 3)) ∧ (decode prog_3_method_2_code 60 = .ok (.iconst 0, 1)) ∧ (decode prog_3_method_2_code 61 = .ok (.aload_n 0, 1)) ∧ (decode prog_3_method_2_code 62 = .ok (.getfield 24, 3)) ∧ (decode prog_3_method_2_code 65 = .ok (.iconst 0, 1)) ∧ (decode prog_3_method_2_code 66 = .ok (.bipush 6, 2)) ∧ (decode prog_3_method_2_code 68 = .ok (.invokestatic 56, 3)) ∧ (decode prog_3_method_2_code 71 = .ok (.aload_n 1, 1)) ∧ (decode prog_3_method_2_code 72 = .ok (.getfield 27, 3)) ∧ (decode prog_3_method_2_code 75 = .ok (.iconst 0, 1)) ∧ (decode prog_3_method_2_code 76 = .ok (.aload_n 0, 1)) ∧ (decode prog_3_method_2_code 77 = .ok (.getfield 27, 3)) ∧ (decode prog_3_method_2_code 80 = .ok (.iconst 0, 1)) ∧ (decode prog_3_method_2_code 81 = .ok (.bipush 6, 2)) ∧ (decode prog_3_method_2_code 83 = .ok (.invokestatic 56, 3)) ∧ (decode prog_3_method_2_code 86 = .ok (.aload_n 1, 1)) := by decide +kernel
theorem d7_57 : decode prog_3_method_2_code 57 = .ok (.getfield 24, 3) := dd7_57.1
theorem d7_60 : decode prog_3_method_2_code 60 = .ok (.iconst 0, 1) := dd7_57.2.1
theorem d7_61 : decode prog_3_method_2_code 61 = .ok (.aload_n 0, 1) := dd7_57.2.2.1
theorem d7_62 : decode prog_3_method_2_code 62 = .ok (.getfield 24, 3) := dd7_57.2.2.2.1
theorem d7_65 : decode prog_3_method_2_code 65 = .ok (.iconst 0, 1) := dd7_57.2.2.2.2.1
theorem d7_66 : decode prog_3_method_2_code 66 = .ok (.bipush 6, 2) := dd7_57.2.2.2.2.2.1
theorem d7_68 : decode prog_3_method_2_code 68 = .ok (.invokestatic 56, 3) := dd7_57.2.2.2.2.2.2.1
theorem d7_71 : decode prog_3_method_2_code 71 = .ok (.aload_n 1, 1) := dd7_57.2.2.2.2.2.2.2.1
theorem d7_72 : decode prog_3_method_2_code 72 = .ok (.getfield 27, 3) := dd7_57.2.2.2.2.2.2.2.2.1
theorem d7_75 : decode prog_3_method_2_code 75 = .ok (.iconst 0, 1) := dd7_57.2.2.2.2.2.2.2.2.2.1
theorem d7_76 : decode prog_3_method_2_code 76 = .ok (.aload_n 0, 1) := dd7_57.2.2.2.2.2.2.2.2.2.2.1
theorem d7_77 : decode prog_3_method_2_code 77 = .ok (.getfield 27, 3) := dd7_57.2.2.2.2.2.2.2.2.2.2.2.1
theorem d7_80 : decode prog_3_method_2_code 80 = .ok (.iconst 0, 1) := dd7_57.2.2.2.2.2.2.2.2.2.2.2.2.1
theorem d7_81 : decode prog_3_method_2_code 81 = .ok (.bipush 6, 2) := dd7_57.2.2.2.2.2.2.2.2.2.2.2.2.2.1
theorem d7_83 : decode prog_3_method_2_code 83 = .ok (.invokestatic 56, 3) := dd7_57.2.2.2.2.2.2.2.2.2.2.2.2.2.2.1
theorem d7_86 : decode prog_3_method_2_code 86 = .ok (.aload_n 1, 1) := dd7_57.2.2.2.2.2.2.2.2.2.2.2.2.2.2.2
theorem dd7_87 : (decode prog_3_method_2_code 87 = .ok (.getfield 30, 3)) ∧ (decode prog_3_method_2_code 90 = .ok (.iconst 0, 1)) ∧ (decode prog_3_method_2_code 91 = .ok (.aload_n 0, 1)) ∧ (decode prog_3_method_2_code 92 = .ok (.getfield 30, 3)) ∧ (decode prog_3_method_2_code 95 = .ok (.iconst 0, 1)) ∧ (decode prog_3_method_2_code 96 = .ok (.bipush 6, 2)) ∧ (decode prog_3_method_2_code 98 = .ok (.invokestatic 56, 3)) ∧ (decode prog_3_method_2_code 101 = .ok (.aload_n 1, 1)) ∧ (decode prog_3_method_2_code 102 = .ok (.getfield 33, 3)) ∧ (decode prog_3_method_2_code 105 = .ok (.iconst 0, 1)) ∧ (decode prog_3_method_2_code 106 = .ok (.aload_n 0, 1)) ∧ (decode prog_3_method_2_code 107 = .ok (.getfield 33, 3)) ∧ (decode prog_3_method_2_code 110 = .ok (.iconst 0, 1)) ∧ (decode prog_3_method_2_code 111 = .ok (.bipush 12, 2)) ∧ (decode prog_3_method_2_code 113 = .ok (.invokestatic 56, 3)) ∧ (decode prog_3_method_2_code 116 = .ok (.aload_n 0, 1)) := by decide +kernel
theorem d7_87 : decode prog_3_method_2_code 87 = .ok (.getfield 30, 3) := dd7_87.1
theorem d7_90 : decode prog_3_method_2_code 90 = .ok (.iconst 0, 1) := dd7_87.2.1
theorem d7_91 : decode prog_3_method_2_code 91 = .ok (.aload_n 0, 1) := dd7_87.2.2.1
theorem d7_92 : decode prog_3_method_2_code 92 = .ok (.getfield 30, 3) := dd7_87.2.2.2.1
theorem d7_95 : decode prog_3_method_2_code 95 = .ok (.iconst 0, 1) := dd7_87.2.2.2.2.1
theorem d7_96 : decode prog_3_method_2_code 96 = .ok (.bipush 6, 2) := dd7_87.2.2.2.2.2.1
theorem d7_98 : decode prog_3_method_2_code 98 = .ok (.invokestatic 56, 3) := dd7_87.2.2.2.2.2.2.1
theorem d7_101 : decode prog_3_method_2_code 101 = .ok (.aload_n 1, 1) := dd7_87.2.2.2.2.2.2.2.1
theorem d7_102 : decode prog_3_method_2_code 102 = .ok (.getfield 33, 3) := dd7_87.2.2.2.2.2.2.2.2.1
theorem d7_105 : decode prog_3_method_2_code 105 = .ok (.iconst 0, 1) := dd7_87.2.2.2.2.2.2.2.2.2.1
theorem d7_106 : decode prog_3_method_2_code 106 = .ok (.aload_n 0, 1) := dd7_87.2.2.2.2.2.2.2.2.2.2.1
theorem d7_107 : decode prog_3_method_2_code 107 = .ok (.getfield 33, 3) := dd7_87.2.2.2.2.2.2.2.2.2.2.2.1
theorem d7_110 : decode prog_3_method_2_code 110 = .ok (.iconst 0, 1) := dd7_87.2.2.2.2.2.2.2.2.2.2.2.2.1
theorem d7_111 : decode prog_3_method_2_code 111 = .ok (.bipush 12, 2) := dd7_87.2.2.2.2.2.2.2.2.2.2.2.2.2.1
theorem d7_113 : decode prog_3_method_2_code 113 = .ok (.invokestatic 56, 3) := dd7_87.2.2.2.2.2.2.2.2.2.2.2.2.2.2.1
theorem d7_116 : decode prog_3_method_2_code 116 = .ok (.aload_n 0, 1) := dd7_87.2.2.2.2.2.2.2.2.2.2.2.2.2.2.2
theorem dd7_117 : (decode prog_3_method_2_code 117 = .ok (.aload_n 1, 1)) ∧ (decode prog_3_method_2_code 118 = .ok (.getfield 48, 3)) ∧ (decode prog_3_method_2_code 121 = .ok (.putfield 48, 3)) ∧ (decode prog_3_method_2_code 124 = .ok (.aload_n 0, 1)) ∧ (decode prog_3_method_2_code 125 = .ok (.aload_n 1, 1)) ∧ (decode prog_3_method_2_code 126 = .ok (.getfield 55, 3)) ∧ (decode prog_3_method_2_code 129 = .ok (.putfield 55, 3)) ∧ (decode prog_3_method_2_code 132 = .ok (.aload_n 0, 1)) ∧ (decode prog_3_method_2_code 133 = .ok (.aload_n 1, 1)) ∧ (decode prog_3_method_2_code 134 = .ok (.getfield 62, 3)) ∧ (decode prog_3_method_2_code 137 = .ok (.putfield 62, 3)) ∧ (decode prog_3_method_2_code 140 = .ok (.aload_n 0, 1)) ∧ (decode prog_3_method_2_code 141 = .ok (.aload_n 1, 1)) ∧ (decode prog_3_method_2_code 142 = .ok (.getfield 65, 3)) ∧ (decode prog_3_method_2_code 145 = .ok (.putfield 65, 3)) ∧ (decode prog_3_method_2_code 148 = .ok (.aload_n 0, 1)) := by decide +kernel
theorem d7_117 : decode prog_3_method_2_code 117 = .ok (.aload_n 1, 1) := dd7_117.1
theorem d7_118 : decode prog_3_method_2_code 118 = .ok (.getfield 48, 3) := dd7_117.2.1
theorem d7_121 : decode prog_3_method_2_code 121 = .ok (.putfield 48, 3) := dd7_117.2.2.1
theorem d7_124 : decode prog_3_method_2_code 124 = .ok (.aload_n 0, 1) := dd7_117.2.2.2.1
theorem d7_125 : decode prog_3_method_2_code 125 = .ok (.aload_n 1, 1) := dd7_117.2.2.2.2.1
theorem d7_126 : decode prog_3_method_2_code 126 = .ok (.getfield 55, 3) := dd7_117.2.2.2.2.2.1
theorem d7_129 : decode prog_3_method_2_code 129 = .ok (.putfield 55, 3) := dd7_117.2.2.2.2.2.2.1
theorem d7_132 : decode prog_3_method_2_code 132 = .ok (.aload_n 0, 1) := dd7_117.2.2.2.2.2.2.2.1
theorem d7_133 : decode prog_3_method_2_code 133 = .ok (.aload_n 1, 1) := dd7_117.2.2.2.2.2.2.2.2.1
theorem d7_134 : decode prog_3_method_2_code 134 = .ok (.getfield 62, 3) := dd7_117.2.2.2.2.2.2.2.2.2.1
theorem d7_137 : decode prog_3_method_2_code 137 = .ok (.putfield 62, 3) := dd7_117.2.2.2.2.2.2.2.2.2.2.1
theorem d7_140 : decode prog_3_method_2_code 140 = .ok (.aload_n 0, 1) := dd7_117.2.2.2.2.2.2.2.2.2.2.2.1
theorem d7_141 : decode prog_3_method_2_code 141 = .ok (.aload_n 1, 1) := dd7_117.2.2.2.2.2.2.2.2.2.2.2.2.1
theorem d7_142 : decode prog_3_method_2_code 142 = .ok (.getfield 65, 3) := dd7_117.2.2.2.2.2.2.2.2.2.2.2.2.2.1
theorem d7_145 : decode prog_3_method_2_code 145 = .ok (.putfield 65, 3) := dd7_117.2.2.2.2.2.2.2.2.2.2.2.2.2.2.1
theorem d7_148 : decode prog_3_method_2_code 148 = .ok (.aload_n 0, 1) := dd7_117.2.2.2.2.2.2.2.2.2.2.2.2.2.2.2
theorem dd7_149 : (decode prog_3_method_2_code 149 = .ok (.aload_n 1, 1)) ∧ (decode prog_3_method_2_code 150 = .ok (.getfield 41, 3)) ∧ (decode prog_3_method_2_code 153 = .ok (.putfield 41, 3)) ∧ (decode prog_3_method_2_code 156 = .ok (.aload_n 0, 1)) ∧ (decode prog_3_method_2_code 157 = .ok (.aload_n 1, 1)) ∧ (decode prog_3_method_2_code 158 = .ok (.getfield 45, 3)) ∧ (decode prog_3_method_2_code 161 = .ok (.putfield 45, 3)) ∧ (decode prog_3_method_2_code 164 = .ok (.aload_n 0, 1)) ∧ (decode prog_3_method_2_code 165 = .ok (.aload_n 1, 1)) ∧ (decode prog_3_method_2_code 166 = .ok (.getfield 68, 3)) ∧ (decode prog_3_method_2_code 169 = .ok (.putfield 68, 3)) ∧ (decode prog_3_method_2_code 172 = .ok (.aload_n 0, 1)) ∧ (decode prog_3_method_2_code 173 = .ok (.aload_n 1, 1)) ∧ (decode prog_3_method_2_code 174 = .ok (.getfield 71, 3)) ∧ (decode prog_3_method_2_code 177 = .ok (.putfield 71, 3)) ∧ (decode prog_3_method_2_code 180 = .ok (.aload_n 0, 1)) := by decide +kernel
theorem d7_149 : decode prog_3_method_2_code 149 = .ok (.aload_n 1, 1) := dd7_149.1
theorem d7_150 : decode prog_3_method_2_code 150 = .ok (.getfield 41, 3) := dd7_149.2.1
theorem d7_153 : decode prog_3_method_2_code 153 = .ok (.putfield 41, 3) := dd7_149.2.2.1
theorem d7_156 : decode prog_3_method_2_code 156 = .ok (.aload_n 0, 1) := dd7_149.2.2.2.1
theorem d7_157 : decode prog_3_method_2_code 157 = .ok (.aload_n 1, 1) := dd7_149.2.2.2.2.1
theorem d7_158 : decode prog_3_method_2_code 158 = .ok (.getfield 45, 3) := dd7_149.2.2.2.2.2.1
theorem d7_161 : decode prog_3_method_2_code 161 = .ok (.putfield 45, 3) := dd7_149.2.2.2.2.2.2.1
theorem d7_164 : decode prog_3_method_2_code 164 = .ok (.aload_n 0, 1) := dd7_149.2.2.2.2.2.2.2.1
theorem d7_165 : decode prog_3_method_2_code 165 = .ok (.aload_n 1, 1) := dd7_149.2.2.2.2.2.2.2.2.1
theorem d7_166 : decode prog_3_method_2_code 166 = .ok (.getfield 68, 3) := dd7_149.2.2.2.2.2.2.2.2.2.1
theorem d7_169 : decode prog_3_method_2_code 169 = .ok (.putfield 68, 3) := dd7_149.2.2.2.2.2.2.2.2.2.2.1
theorem d7_172 : decode prog_3_method_2_code 172 = .ok (.aload_n 0, 1) := dd7_149.2.2.2.2.2.2.2.2.2.2.2.1
theorem d7_173 : decode prog_3_method_2_code 173 = .ok (.aload_n 1, 1) := dd7_149.2.2.2.2.2.2.2.2.2.2.2.2.1
theorem d7_174 : decode prog_3_method_2_code 174 = .ok (.getfield 71, 3) := dd7_149.2.2.2.2.2.2.2.2.2.2.2.2.2.1
theorem d7_177 : decode prog_3_method_2_code 177 = .ok (.putfield 71, 3) := dd7_149.2.2.2.2.2.2.2.2.2.2.2.2.2.2.1
theorem d7_180 : decode prog_3_method_2_code 180 = .ok (.aload_n 0, 1) := dd7_149.2.2.2.2.2.2.2.2.2.2.2.2.2.2.2
theorem dd7_181 : (decode prog_3_method_2_code 181 = .ok (.aload_n 1, 1)) ∧ (decode prog_3_method_2_code 182 = .ok (.getfield 74, 3)) ∧ (decode prog_3_method_2_code 185 = .ok (.putfield 74, 3)) ∧ (decode prog_3_method_2_code 188 = .ok (.aload_n 0, 1)) ∧ (decode prog_3_method_2_code 189 = .ok (.aload_n 1, 1)) ∧ (decode prog_3_method_2_code 190 = .ok (.getfield 77, 3)) ∧ (decode prog_3_method_2_code 193 = .ok (.putfield 77, 3)) ∧ (decode prog_3_method_2_code 196 = .ok (.return_, 1)) := by decide +kernel
theorem d7_181 : decode prog_3_method_2_code 181 = .ok (.aload_n 1, 1) := dd7_181.1
theorem d7_182 : decode prog_3_method_2_code 182 = .ok (.getfield 74, 3) := dd7_181.2.1
theorem d7_185 : decode prog_3_method_2_code 185 = .ok (.putfield 74, 3) := dd7_181.2.2.1
theorem d7_188 : decode prog_3_method_2_code 188 = .ok (.aload_n 0, 1) := dd7_181.2.2.2.1
theorem d7_189 : decode prog_3_method_2_code 189 = .ok (.aload_n 1, 1) := dd7_181.2.2.2.2.1
theorem d7_190 : decode prog_3_method_2_code 190 = .ok (.getfield 77, 3) := dd7_181.2.2.2.2.2.1
theorem d7_193 : decode prog_3_method_2_code 193 = .ok (.putfield 77, 3) := dd7_181.2.2.2.2.2.2.1
theorem d7_196 : decode prog_3_method_2_code 196 = .ok (.return_, 1) := dd7_181.2.2.2.2.2.2.2
theorem b7_0 {d : Nat} {S : mm_S} {a0 : Nat} {a1 : Nat} : mm_ex d 7 0 [.ref a0, .ref a1, .null] [] S =
    mm_ex d 7 2 [.ref a0, .ref a1, .int (nI 0)] [] S :=
  Eq.trans (mx_iconst t7 d7_0 (v := nI 0) rfl) <|
  (mx_istore_n t7 d7_1 (ls' := [.ref a0, .ref a1, .int (nI 0)]) rfl rfl)
theorem b7_2 {d : Nat} {S : mm_S} {a0 : Nat} {a1 : Nat} {x2 : Int32} : mm_ex d 7 2 [.ref a0, .ref a1, .int x2] [] S =
    if (nI 6) ≤ x2 then mm_ex d 7 26 [.ref a0, .ref a1, .int x2] [] S else mm_ex d 7 8 [.ref a0, .ref a1, .int x2] [] S :=
  Eq.trans (mx_iload_n t7 d7_2 (x := x2) rfl) <|
  Eq.trans (mx_bipush t7 d7_3 (v := nI 6) rfl) <|
  (mx_cge t7 d7_5 (tgt := 26) (by decide))
theorem b7_8 {d : Nat} {S : mm_S} {a0 : Nat} {a1 : Nat} {x2 : Int32} (h0 : mm_obj S a0 1 = true) (h1 : (mm_R S a0 0).isSome = true) (h2 : mm_obj S a1 1 = true) (h3 : (mm_R S a1 0).isSome = true) (h4 : mm_inb x2 (mm_N S (mm_rg S a1 0)) = true) (h5 : (mm_arr S (mm_rg S a1 0) 16 || mm_arr S (mm_rg S a1 0) 17 || mm_arr S (mm_rg S a1 0) 18) = true) (h6 : (mm_arr S (mm_rg S a0 0) 16 || mm_arr S (mm_rg S a0 0) 17 || mm_arr S (mm_rg S a0 0) 18) = true) (h7 : mm_inb x2 (mm_N S (mm_rg S a0 0)) = true) (h8 : ∀ e, mm_R S (mm_rg S a1 0) (x2).toNatClampNeg = some e → mm_obj S e (if mm_K S (mm_rg S a0 0) = 16 then 0 else if mm_K S (mm_rg S a0 0) = 17 then 6 else 8) = true) : mm_ex d 7 8 [.ref a0, .ref a1, .int x2] [] S =
    mm_ex d 7 2 [.ref a0, .ref a1, .int (x2 + nI 1)] [] (mm_uR S (mm_rg S a0 0) (x2).toNatClampNeg (mm_R S (mm_rg S a1 0) (x2).toNatClampNeg)) :=
  Eq.trans (mx_aload_n t7 d7_8 (x := a0) rfl) <|
  Eq.trans (mx_getR t7 d7_9 rfl fl1_11 h0 h1) <|
  Eq.trans (mx_iload_n t7 d7_12 (x := x2) rfl) <|
  Eq.trans (mx_aload_n t7 d7_13 (x := a1) rfl) <|
  Eq.trans (mx_getR t7 d7_14 rfl fl1_11 h2 h3) <|
  Eq.trans (mx_iload_n t7 d7_17 (x := x2) rfl) <|
  Eq.trans (mx_qald t7 d7_18 h5 h4) <|
  Eq.trans (mx_qastO t7 d7_19 h6 h7 h8) <|
  Eq.trans (mx_iinc t7 d7_20 (x := x2) (v := nI 1) (ls' := [.ref a0, .ref a1, .int (x2 + nI 1)]) rfl rfl rfl rfl) <|
  (mx_goto t7 d7_23 (tgt := 2) (by decide))
theorem b7_26 {d : Nat} {S : mm_S} {a0 : Nat} {a1 : Nat} {x2 : Int32} (h0 : mm_obj S a1 1 = true) (h1 : (mm_R S a1 1).isSome = true) (h2 : mm_obj S a0 1 = true) (h3 : (mm_R S a0 1).isSome = true) (h4 : mm_arr S (mm_rg S a1 1) 13 = true) (h5 : mm_arr S (mm_rg S a0 1) 13 = true) (h6 : mm_cpOk (nI 0) (nI 0) (nI 6) (mm_N S (mm_rg S a1 1)) (mm_N S (mm_rg S a0 1)) = true) (h7 : (mm_R S a1 2).isSome = true) (h8 : (mm_R S a0 2).isSome = true) : mm_ex (d + 1) 7 26 [.ref a0, .ref a1, .int x2] [] S =
    mm_ex (d + 1) 7 53 [.ref a0, .ref a1, .int x2] [.int (nI 18), .int (nI 0), .ref (mm_rg S a0 2), .int (nI 0), .ref (mm_rg S a1 2)] (mm_cpM S (mm_rg S a1 1) (mm_rg S a0 1) (nI 0).toNatClampNeg (nI 0).toNatClampNeg (nI 6).toNatClampNeg) :=
  Eq.trans (mx_aload_n t7 d7_26 (x := a1) rfl) <|
  Eq.trans (mx_getR t7 d7_27 rfl fl1_17 h0 h1) <|
  Eq.trans (mx_iconst t7 d7_30 (v := nI 0) rfl) <|
  Eq.trans (mx_aload_n t7 d7_31 (x := a0) rfl) <|
  Eq.trans (mx_getR t7 d7_32 rfl fl1_17 h2 h3) <|
  Eq.trans (mx_iconst t7 d7_35 (v := nI 0) rfl) <|
  Eq.trans (mx_bipush t7 d7_36 (v := nI 6) rfl) <|
  Eq.trans (mx_cpi2 t7 d7_38 ac1_56 (Nat.le_of_ble_eq_true rfl) h4 h5 h6) <|
  Eq.trans (mx_aload_n t7 d7_41 (x := a1) rfl) <|
  Eq.trans (mx_getR t7 d7_42 rfl fl1_21 h0 h7) <|
  Eq.trans (mx_iconst t7 d7_45 (v := nI 0) rfl) <|
  Eq.trans (mx_aload_n t7 d7_46 (x := a0) rfl) <|
  Eq.trans (mx_getR t7 d7_47 rfl fl1_21 h2 h8) <|
  Eq.trans (mx_iconst t7 d7_50 (v := nI 0) rfl) <|
  (mx_bipush t7 d7_51 (v := nI 18) rfl)
theorem b7_53 {d : Nat} {S : mm_S} {a0 : Nat} {a1 : Nat} {x2 : Int32} {p0 : Int32} {p1 : Int32} {p2 : Nat} {p3 : Int32} {p4 : Nat} (h0 : mm_arr S p4 13 = true) (h1 : mm_arr S p2 13 = true) (h2 : mm_cpOk p3 p1 p0 (mm_N S p4) (mm_N S p2) = true) (h3 : mm_obj S a1 1 = true) (h4 : (mm_R S a1 3).isSome = true) (h5 : mm_obj S a0 1 = true) (h6 : (mm_R S a0 3).isSome = true) : mm_ex (d + 1) 7 53 [.ref a0, .ref a1, .int x2] [.int p0, .int p1, .ref p2, .int p3, .ref p4] S =
    mm_ex (d + 1) 7 68 [.ref a0, .ref a1, .int x2] [.int (nI 6), .int (nI 0), .ref (mm_rg S a0 3), .int (nI 0), .ref (mm_rg S a1 3)] (mm_cpM S p4 p2 (p3).toNatClampNeg (p1).toNatClampNeg (p0).toNatClampNeg) :=
  Eq.trans (mx_cpi2 t7 d7_53 ac1_56 (Nat.le_of_ble_eq_true rfl) h0 h1 h2) <|
  Eq.trans (mx_aload_n t7 d7_56 (x := a1) rfl) <|
  Eq.trans (mx_getR t7 d7_57 rfl fl1_24 h3 h4) <|
  Eq.trans (mx_iconst t7 d7_60 (v := nI 0) rfl) <|
  Eq.trans (mx_aload_n t7 d7_61 (x := a0) rfl) <|
  Eq.trans (mx_getR t7 d7_62 rfl fl1_24 h5 h6) <|
  Eq.trans (mx_iconst t7 d7_65 (v := nI 0) rfl) <|
  (mx_bipush t7 d7_66 (v := nI 6) rfl)
theorem b7_68 {d : Nat} {S : mm_S} {a0 : Nat} {a1 : Nat} {x2 : Int32} {p0 : Int32} {p1 : Int32} {p2 : Nat} {p3 : Int32} {p4 : Nat} (h0 : mm_arr S p4 13 = true) (h1 : mm_arr S p2 13 = true) (h2 : mm_cpOk p3 p1 p0 (mm_N S p4) (mm_N S p2) = true) (h3 : mm_obj S a1 1 = true) (h4 : (mm_R S a1 4).isSome = true) (h5 : mm_obj S a0 1 = true) (h6 : (mm_R S a0 4).isSome = true) : mm_ex (d + 1) 7 68 [.ref a0, .ref a1, .int x2] [.int p0, .int p1, .ref p2, .int p3, .ref p4] S =
    mm_ex (d + 1) 7 83 [.ref a0, .ref a1, .int x2] [.int (nI 6), .int (nI 0), .ref (mm_rg S a0 4), .int (nI 0), .ref (mm_rg S a1 4)] (mm_cpM S p4 p2 (p3).toNatClampNeg (p1).toNatClampNeg (p0).toNatClampNeg) :=
  Eq.trans (mx_cpi2 t7 d7_68 ac1_56 (Nat.le_of_ble_eq_true rfl) h0 h1 h2) <|
  Eq.trans (mx_aload_n t7 d7_71 (x := a1) rfl) <|
  Eq.trans (mx_getR t7 d7_72 rfl fl1_27 h3 h4) <|
  Eq.trans (mx_iconst t7 d7_75 (v := nI 0) rfl) <|
  Eq.trans (mx_aload_n t7 d7_76 (x := a0) rfl) <|
  Eq.trans (mx_getR t7 d7_77 rfl fl1_27 h5 h6) <|
  Eq.trans (mx_iconst t7 d7_80 (v := nI 0) rfl) <|
  (mx_bipush t7 d7_81 (v := nI 6) rfl)
theorem b7_83 {d : Nat} {S : mm_S} {a0 : Nat} {a1 : Nat} {x2 : Int32} {p0 : Int32} {p1 : Int32} {p2 : Nat} {p3 : Int32} {p4 : Nat} (h0 : mm_arr S p4 13 = true) (h1 : mm_arr S p2 13 = true) (h2 : mm_cpOk p3 p1 p0 (mm_N S p4) (mm_N S p2) = true) (h3 : mm_obj S a1 1 = true) (h4 : (mm_R S a1 5).isSome = true) (h5 : mm_obj S a0 1 = true) (h6 : (mm_R S a0 5).isSome = true) : mm_ex (d + 1) 7 83 [.ref a0, .ref a1, .int x2] [.int p0, .int p1, .ref p2, .int p3, .ref p4] S =
    mm_ex (d + 1) 7 98 [.ref a0, .ref a1, .int x2] [.int (nI 6), .int (nI 0), .ref (mm_rg S a0 5), .int (nI 0), .ref (mm_rg S a1 5)] (mm_cpM S p4 p2 (p3).toNatClampNeg (p1).toNatClampNeg (p0).toNatClampNeg) :=
  Eq.trans (mx_cpi2 t7 d7_83 ac1_56 (Nat.le_of_ble_eq_true rfl) h0 h1 h2) <|
  Eq.trans (mx_aload_n t7 d7_86 (x := a1) rfl) <|
  Eq.trans (mx_getR t7 d7_87 rfl fl1_30 h3 h4) <|
  Eq.trans (mx_iconst t7 d7_90 (v := nI 0) rfl) <|
  Eq.trans (mx_aload_n t7 d7_91 (x := a0) rfl) <|
  Eq.trans (mx_getR t7 d7_92 rfl fl1_30 h5 h6) <|
  Eq.trans (mx_iconst t7 d7_95 (v := nI 0) rfl) <|
  (mx_bipush t7 d7_96 (v := nI 6) rfl)
theorem b7_98 {d : Nat} {S : mm_S} {a0 : Nat} {a1 : Nat} {x2 : Int32} {p0 : Int32} {p1 : Int32} {p2 : Nat} {p3 : Int32} {p4 : Nat} (h0 : mm_arr S p4 13 = true) (h1 : mm_arr S p2 13 = true) (h2 : mm_cpOk p3 p1 p0 (mm_N S p4) (mm_N S p2) = true) (h3 : mm_obj S a1 1 = true) (h4 : (mm_R S a1 6).isSome = true) (h5 : mm_obj S a0 1 = true) (h6 : (mm_R S a0 6).isSome = true) : mm_ex (d + 1) 7 98 [.ref a0, .ref a1, .int x2] [.int p0, .int p1, .ref p2, .int p3, .ref p4] S =
    mm_ex (d + 1) 7 113 [.ref a0, .ref a1, .int x2] [.int (nI 12), .int (nI 0), .ref (mm_rg S a0 6), .int (nI 0), .ref (mm_rg S a1 6)] (mm_cpM S p4 p2 (p3).toNatClampNeg (p1).toNatClampNeg (p0).toNatClampNeg) :=
  Eq.trans (mx_cpi2 t7 d7_98 ac1_56 (Nat.le_of_ble_eq_true rfl) h0 h1 h2) <|
  Eq.trans (mx_aload_n t7 d7_101 (x := a1) rfl) <|
  Eq.trans (mx_getR t7 d7_102 rfl fl1_33 h3 h4) <|
  Eq.trans (mx_iconst t7 d7_105 (v := nI 0) rfl) <|
  Eq.trans (mx_aload_n t7 d7_106 (x := a0) rfl) <|
  Eq.trans (mx_getR t7 d7_107 rfl fl1_33 h5 h6) <|
  Eq.trans (mx_iconst t7 d7_110 (v := nI 0) rfl) <|
  (mx_bipush t7 d7_111 (v := nI 12) rfl)
theorem b7_113 {d : Nat} {S : mm_S} {a0 : Nat} {a1 : Nat} {x2 : Int32} {p0 : Int32} {p1 : Int32} {p2 : Nat} {p3 : Int32} {p4 : Nat} (h0 : mm_arr S p4 13 = true) (h1 : mm_arr S p2 13 = true) (h2 : mm_cpOk p3 p1 p0 (mm_N S p4) (mm_N S p2) = true) (h3 : mm_obj S a1 1 = true) (h4 : (mm_R S a1 8).isSome = true) (h5 : mm_obj S a0 1 = true) (h6 : (mm_rg S a1 8) < mm_n S) : mm_ex (d + 1) 7 113 [.ref a0, .ref a1, .int x2] [.int p0, .int p1, .ref p2, .int p3, .ref p4] S =
    mm_ex (d + 1) 7 126 [.ref a0, .ref a1, .int x2] [.ref a1, .ref a0] (mm_uR (mm_cpM S p4 p2 (p3).toNatClampNeg (p1).toNatClampNeg (p0).toNatClampNeg) a0 8 (some (mm_rg S a1 8))) :=
  Eq.trans (mx_cpi2 t7 d7_113 ac1_56 (Nat.le_of_ble_eq_true rfl) h0 h1 h2) <|
  Eq.trans (mx_aload_n t7 d7_116 (x := a0) rfl) <|
  Eq.trans (mx_aload_n t7 d7_117 (x := a1) rfl) <|
  Eq.trans (mx_getR t7 d7_118 rfl fl1_48 h3 h4) <|
  Eq.trans (mx_putr2 t7 d7_121 fl1_48 rfl h5 h6) <|
  Eq.trans (mx_aload_n t7 d7_124 (x := a0) rfl) <|
  (mx_aload_n t7 d7_125 (x := a1) rfl)
theorem b7_126 {d : Nat} {S : mm_S} {a0 : Nat} {a1 : Nat} {x2 : Int32} {p0 : Nat} {p1 : Nat} (h0 : mm_obj S p0 1 = true) (h1 : mm_obj S p1 1 = true) : mm_ex d 7 126 [.ref a0, .ref a1, .int x2] [.ref p0, .ref p1] S =
    mm_ex d 7 134 [.ref a0, .ref a1, .int x2] [.ref a1, .ref a0] (mm_uM S p1 9 (mm_M S p0 9)) :=
  Eq.trans (mx_geti t7 d7_126 rfl fl1_55 h0) <|
  Eq.trans (mx_puti2 t7 d7_129 fl1_55 rfl h1) <|
  Eq.trans (mx_aload_n t7 d7_132 (x := a0) rfl) <|
  (mx_aload_n t7 d7_133 (x := a1) rfl)
theorem b7_134 {d : Nat} {S : mm_S} {a0 : Nat} {a1 : Nat} {x2 : Int32} {p0 : Nat} {p1 : Nat} (h0 : mm_obj S p0 1 = true) (h1 : mm_obj S p1 1 = true) : mm_ex d 7 134 [.ref a0, .ref a1, .int x2] [.ref p0, .ref p1] S =
    mm_ex d 7 142 [.ref a0, .ref a1, .int x2] [.ref a1, .ref a0] (mm_uM S p1 10 (mm_M S p0 10)) :=
  Eq.trans (mx_geti t7 d7_134 rfl fl1_62 h0) <|
  Eq.trans (mx_puti2 t7 d7_137 fl1_62 rfl h1) <|
  Eq.trans (mx_aload_n t7 d7_140 (x := a0) rfl) <|
  (mx_aload_n t7 d7_141 (x := a1) rfl)
theorem b7_142 {d : Nat} {S : mm_S} {a0 : Nat} {a1 : Nat} {x2 : Int32} {p0 : Nat} {p1 : Nat} (h0 : mm_obj S p0 1 = true) (h1 : mm_obj S p1 1 = true) : mm_ex d 7 142 [.ref a0, .ref a1, .int x2] [.ref p0, .ref p1] S =
    mm_ex d 7 150 [.ref a0, .ref a1, .int x2] [.ref a1, .ref a0] (mm_uM S p1 11 (mm_M S p0 11)) :=
  Eq.trans (mx_geti t7 d7_142 rfl fl1_65 h0) <|
  Eq.trans (mx_puti2 t7 d7_145 fl1_65 rfl h1) <|
  Eq.trans (mx_aload_n t7 d7_148 (x := a0) rfl) <|
  (mx_aload_n t7 d7_149 (x := a1) rfl)
theorem b7_150 {d : Nat} {S : mm_S} {a0 : Nat} {a1 : Nat} {x2 : Int32} {p0 : Nat} {p1 : Nat} (h0 : mm_obj S p0 1 = true) (h1 : mm_obj S p1 1 = true) : mm_ex d 7 150 [.ref a0, .ref a1, .int x2] [.ref p0, .ref p1] S =
    mm_ex d 7 158 [.ref a0, .ref a1, .int x2] [.ref a1, .ref a0] (mm_uM S p1 12 (mm_M S p0 12)) :=
  Eq.trans (mx_geti t7 d7_150 rfl fl1_41 h0) <|
  Eq.trans (mx_puti2 t7 d7_153 fl1_41 rfl h1) <|
  Eq.trans (mx_aload_n t7 d7_156 (x := a0) rfl) <|
  (mx_aload_n t7 d7_157 (x := a1) rfl)
theorem b7_158 {d : Nat} {S : mm_S} {a0 : Nat} {a1 : Nat} {x2 : Int32} {p0 : Nat} {p1 : Nat} (h0 : mm_obj S p0 1 = true) (h1 : mm_obj S p1 1 = true) : mm_ex d 7 158 [.ref a0, .ref a1, .int x2] [.ref p0, .ref p1] S =
    mm_ex d 7 166 [.ref a0, .ref a1, .int x2] [.ref a1, .ref a0] (mm_uM S p1 13 (mm_M S p0 13)) :=
  Eq.trans (mx_geti t7 d7_158 rfl fl1_45 h0) <|
  Eq.trans (mx_puti2 t7 d7_161 fl1_45 rfl h1) <|
  Eq.trans (mx_aload_n t7 d7_164 (x := a0) rfl) <|
  (mx_aload_n t7 d7_165 (x := a1) rfl)
theorem b7_166 {d : Nat} {S : mm_S} {a0 : Nat} {a1 : Nat} {x2 : Int32} {p0 : Nat} {p1 : Nat} (h0 : mm_obj S p0 1 = true) (h1 : mm_obj S p1 1 = true) : mm_ex d 7 166 [.ref a0, .ref a1, .int x2] [.ref p0, .ref p1] S =
    mm_ex d 7 174 [.ref a0, .ref a1, .int x2] [.ref a1, .ref a0] (mm_uM S p1 14 (mm_M S p0 14)) :=
  Eq.trans (mx_geti t7 d7_166 rfl fl1_68 h0) <|
  Eq.trans (mx_puti2 t7 d7_169 fl1_68 rfl h1) <|
  Eq.trans (mx_aload_n t7 d7_172 (x := a0) rfl) <|
  (mx_aload_n t7 d7_173 (x := a1) rfl)
theorem b7_174 {d : Nat} {S : mm_S} {a0 : Nat} {a1 : Nat} {x2 : Int32} {p0 : Nat} {p1 : Nat} (h0 : mm_obj S p0 1 = true) (h1 : mm_obj S p1 1 = true) : mm_ex d 7 174 [.ref a0, .ref a1, .int x2] [.ref p0, .ref p1] S =
    mm_ex d 7 182 [.ref a0, .ref a1, .int x2] [.ref a1, .ref a0] (mm_uM S p1 15 (mm_M S p0 15)) :=
  Eq.trans (mx_geti t7 d7_174 rfl fl1_71 h0) <|
  Eq.trans (mx_puti2 t7 d7_177 fl1_71 rfl h1) <|
  Eq.trans (mx_aload_n t7 d7_180 (x := a0) rfl) <|
  (mx_aload_n t7 d7_181 (x := a1) rfl)
theorem b7_182 {d : Nat} {S : mm_S} {a0 : Nat} {a1 : Nat} {x2 : Int32} {p0 : Nat} {p1 : Nat} (h0 : mm_obj S p0 1 = true) (h1 : mm_obj S p1 1 = true) : mm_ex d 7 182 [.ref a0, .ref a1, .int x2] [.ref p0, .ref p1] S =
    mm_ex d 7 190 [.ref a0, .ref a1, .int x2] [.ref a1, .ref a0] (mm_uM S p1 16 (mm_M S p0 16)) :=
  Eq.trans (mx_geti t7 d7_182 rfl fl1_74 h0) <|
  Eq.trans (mx_puti2 t7 d7_185 fl1_74 rfl h1) <|
  Eq.trans (mx_aload_n t7 d7_188 (x := a0) rfl) <|
  (mx_aload_n t7 d7_189 (x := a1) rfl)
theorem b7_190 {d : Nat} {S : mm_S} {a0 : Nat} {a1 : Nat} {x2 : Int32} {p0 : Nat} {p1 : Nat} (h0 : mm_obj S p0 1 = true) (h1 : mm_obj S p1 1 = true) : mm_ex d 7 190 [.ref a0, .ref a1, .int x2] [.ref p0, .ref p1] S =
    some (none, (mm_uM S p1 17 (mm_M S p0 17))) :=
  Eq.trans (mx_geti t7 d7_190 rfl fl1_77 h0) <|
  Eq.trans (mx_puti2 t7 d7_193 fl1_77 rfl h1) <|
  (mx_vret t7 d7_196 rfl)
theorem e7 {d : Nat} {S : mm_S} {a0 : Nat} {a1 : Nat} : mm_cl d 7 [.ref a0, .ref a1] S = mm_ex d 7 0 [.ref a0, .ref a1, .null] [] S := mm_cl_eq t7 (Nat.le_of_ble_eq_true rfl) rfl
/-! X1_knows -/
theorem d8_0 : decode prog_3_method_3_code 0 = .ok (.iload_n 1, 1) := by decide +kernel
theorem d8_1 : decode prog_3_method_3_code 1 = .ok (.ifCond .lt 15, 3) := by decide +kernel
theorem d8_4 : decode prog_3_method_3_code 4 = .ok (.iload_n 1, 1) := by decide +kernel
theorem d8_5 : decode prog_3_method_3_code 5 = .ok (.aload_n 0, 1) := by decide +kernel
theorem d8_6 : decode prog_3_method_3_code 6 = .ok (.getfield 62, 3) := by decide +kernel
theorem d8_9 : decode prog_3_method_3_code 9 = .ok (.if_icmp .ge 7, 3) := by decide +kernel
theorem d8_12 : decode prog_3_method_3_code 12 = .ok (.iconst 1, 1) := by decide +kernel
theorem d8_13 : decode prog_3_method_3_code 13 = .ok (.goto 4, 3) := by decide +kernel
theorem d8_16 : decode prog_3_method_3_code 16 = .ok (.iconst 0, 1) := by decide +kernel
theorem d8_17 : decode prog_3_method_3_code 17 = .ok (.ireturn, 1) := by decide +kernel
theorem b8_0 {d : Nat} {S : mm_S} {a0 : Nat} {x1 : Int32} : mm_ex d 8 0 [.ref a0, .int x1] [] S =
    if x1 < nI 0 then mm_ex d 8 16 [.ref a0, .int x1] [] S else mm_ex d 8 4 [.ref a0, .int x1] [] S :=
  Eq.trans (mx_iload_n t8 d8_0 (x := x1) rfl) <|
  (mx_ilt t8 d8_1 (tgt := 16) (by decide))
theorem b8_4 {d : Nat} {S : mm_S} {a0 : Nat} {x1 : Int32} (h0 : mm_obj S a0 1 = true) : mm_ex d 8 4 [.ref a0, .int x1] [] S =
    if (mm_M S a0 10) ≤ x1 then mm_ex d 8 16 [.ref a0, .int x1] [] S else mm_ex d 8 12 [.ref a0, .int x1] [] S :=
  Eq.trans (mx_iload_n t8 d8_4 (x := x1) rfl) <|
  Eq.trans (mx_aload_n t8 d8_5 (x := a0) rfl) <|
  Eq.trans (mx_geti t8 d8_6 rfl fl1_62 h0) <|
  (mx_cge t8 d8_9 (tgt := 16) (by decide))
theorem b8_12 {d : Nat} {S : mm_S} {a0 : Nat} {x1 : Int32} : mm_ex d 8 12 [.ref a0, .int x1] [] S =
    some (some (.int (nI 1)), S) :=
  Eq.trans (mx_iconst t8 d8_12 (v := nI 1) rfl) <|
  Eq.trans (mx_goto t8 d8_13 (tgt := 17) (by decide)) <|
  (mx_iret t8 d8_17 (ty := .boolean) rfl rfl (fun h => nomatch h))
theorem b8_16 {d : Nat} {S : mm_S} {a0 : Nat} {x1 : Int32} : mm_ex d 8 16 [.ref a0, .int x1] [] S =
    some (some (.int (nI 0)), S) :=
  Eq.trans (mx_iconst t8 d8_16 (v := nI 0) rfl) <|
  (mx_iret t8 d8_17 (ty := .boolean) rfl rfl (fun h => nomatch h))
theorem e8 {d : Nat} {S : mm_S} {a0 : Nat} {x1 : Int32} : mm_cl d 8 [.ref a0, .int x1] S = mm_ex d 8 0 [.ref a0, .int x1] [] S := mm_cl_eq t8 (Nat.le_of_ble_eq_true rfl) rfl
/-! X1_welcome -/
theorem dd9_0 : (decode prog_3_method_4_code 0 = .ok (.aload_n 0, 1)) ∧ (decode prog_3_method_4_code 1 = .ok (.getfield 62, 3)) ∧ (decode prog_3_method_4_code 4 = .ok (.bipush 6, 2)) ∧ (decode prog_3_method_4_code 6 = .ok (.if_icmp .lt 4, 3)) ∧ (decode prog_3_method_4_code 9 = .ok (.return_, 1)) ∧ (decode prog_3_method_4_code 10 = .ok (.aload_n 0, 1)) ∧ (decode prog_3_method_4_code 11 = .ok (.getfield 62, 3)) ∧ (decode prog_3_method_4_code 14 = .ok (.istore_n 2, 1)) ∧ (decode prog_3_method_4_code 15 = .ok (.aload_n 0, 1)) ∧ (decode prog_3_method_4_code 16 = .ok (.getfield 11, 3)) ∧ (decode prog_3_method_4_code 19 = .ok (.iload_n 2, 1)) ∧ (decode prog_3_method_4_code 20 = .ok (.aload_n 1, 1)) ∧ (decode prog_3_method_4_code 21 = .ok (.aastore, 1)) ∧ (decode prog_3_method_4_code 22 = .ok (.aload_n 0, 1)) ∧ (decode prog_3_method_4_code 23 = .ok (.getfield 17, 3)) ∧ (decode prog_3_method_4_code 26 = .ok (.iload_n 2, 1)) := by decide +kernel
theorem d9_0 : decode prog_3_method_4_code 0 = .ok (.aload_n 0, 1) := dd9_0.1
theorem d9_1 : decode prog_3_method_4_code 1 = .ok (.getfield 62, 3) := dd9_0.2.1
theorem d9_4 : decode prog_3_method_4_code 4 = .ok (.bipush 6, 2) := dd9_0.2.2.1
theorem d9_6 : decode prog_3_method_4_code 6 = .ok (.if_icmp .lt 4, 3) := dd9_0.2.2.2.1
theorem d9_9 : decode prog_3_method_4_code 9 = .ok (.return_, 1) := dd9_0.2.2.2.2.1
theorem d9_10 : decode prog_3_method_4_code 10 = .ok (.aload_n 0, 1) := dd9_0.2.2.2.2.2.1
theorem d9_11 : decode prog_3_method_4_code 11 = .ok (.getfield 62, 3) := dd9_0.2.2.2.2.2.2.1
theorem d9_14 : decode prog_3_method_4_code 14 = .ok (.istore_n 2, 1) := dd9_0.2.2.2.2.2.2.2.1
theorem d9_15 : decode prog_3_method_4_code 15 = .ok (.aload_n 0, 1) := dd9_0.2.2.2.2.2.2.2.2.1
theorem d9_16 : decode prog_3_method_4_code 16 = .ok (.getfield 11, 3) := dd9_0.2.2.2.2.2.2.2.2.2.1
theorem d9_19 : decode prog_3_method_4_code 19 = .ok (.iload_n 2, 1) := dd9_0.2.2.2.2.2.2.2.2.2.2.1
theorem d9_20 : decode prog_3_method_4_code 20 = .ok (.aload_n 1, 1) := dd9_0.2.2.2.2.2.2.2.2.2.2.2.1
theorem d9_21 : decode prog_3_method_4_code 21 = .ok (.aastore, 1) := dd9_0.2.2.2.2.2.2.2.2.2.2.2.2.1
theorem d9_22 : decode prog_3_method_4_code 22 = .ok (.aload_n 0, 1) := dd9_0.2.2.2.2.2.2.2.2.2.2.2.2.2.1
theorem d9_23 : decode prog_3_method_4_code 23 = .ok (.getfield 17, 3) := dd9_0.2.2.2.2.2.2.2.2.2.2.2.2.2.2.1
theorem d9_26 : decode prog_3_method_4_code 26 = .ok (.iload_n 2, 1) := dd9_0.2.2.2.2.2.2.2.2.2.2.2.2.2.2.2
theorem dd9_27 : (decode prog_3_method_4_code 27 = .ok (.iconst (-1), 1)) ∧ (decode prog_3_method_4_code 28 = .ok (.iastore, 1)) ∧ (decode prog_3_method_4_code 29 = .ok (.iconst 0, 1)) ∧ (decode prog_3_method_4_code 30 = .ok (.istore_n 3, 1)) ∧ (decode prog_3_method_4_code 31 = .ok (.iload_n 3, 1)) ∧ (decode prog_3_method_4_code 32 = .ok (.iconst 3, 1)) ∧ (decode prog_3_method_4_code 33 = .ok (.if_icmp .ge 20, 3)) ∧ (decode prog_3_method_4_code 36 = .ok (.aload_n 0, 1)) ∧ (decode prog_3_method_4_code 37 = .ok (.getfield 21, 3)) ∧ (decode prog_3_method_4_code 40 = .ok (.iload_n 2, 1)) ∧ (decode prog_3_method_4_code 41 = .ok (.iconst 3, 1)) ∧ (decode prog_3_method_4_code 42 = .ok (.imul, 1)) ∧ (decode prog_3_method_4_code 43 = .ok (.iload_n 3, 1)) ∧ (decode prog_3_method_4_code 44 = .ok (.iadd, 1)) ∧ (decode prog_3_method_4_code 45 = .ok (.iconst 0, 1)) ∧ (decode prog_3_method_4_code 46 = .ok (.iastore, 1)) := by decide +kernel
theorem d9_27 : decode prog_3_method_4_code 27 = .ok (.iconst (-1), 1) := dd9_27.1
theorem d9_28 : decode prog_3_method_4_code 28 = .ok (.iastore, 1) := dd9_27.2.1
theorem d9_29 : decode prog_3_method_4_code 29 = .ok (.iconst 0, 1) := dd9_27.2.2.1
theorem d9_30 : decode prog_3_method_4_code 30 = .ok (.istore_n 3, 1) := dd9_27.2.2.2.1
theorem d9_31 : decode prog_3_method_4_code 31 = .ok (.iload_n 3, 1) := dd9_27.2.2.2.2.1
theorem d9_32 : decode prog_3_method_4_code 32 = .ok (.iconst 3, 1) := dd9_27.2.2.2.2.2.1
theorem d9_33 : decode prog_3_method_4_code 33 = .ok (.if_icmp .ge 20, 3) := dd9_27.2.2.2.2.2.2.1
theorem d9_36 : decode prog_3_method_4_code 36 = .ok (.aload_n 0, 1) := dd9_27.2.2.2.2.2.2.2.1
theorem d9_37 : decode prog_3_method_4_code 37 = .ok (.getfield 21, 3) := dd9_27.2.2.2.2.2.2.2.2.1
theorem d9_40 : decode prog_3_method_4_code 40 = .ok (.iload_n 2, 1) := dd9_27.2.2.2.2.2.2.2.2.2.1
theorem d9_41 : decode prog_3_method_4_code 41 = .ok (.iconst 3, 1) := dd9_27.2.2.2.2.2.2.2.2.2.2.1
theorem d9_42 : decode prog_3_method_4_code 42 = .ok (.imul, 1) := dd9_27.2.2.2.2.2.2.2.2.2.2.2.1
theorem d9_43 : decode prog_3_method_4_code 43 = .ok (.iload_n 3, 1) := dd9_27.2.2.2.2.2.2.2.2.2.2.2.2.1
theorem d9_44 : decode prog_3_method_4_code 44 = .ok (.iadd, 1) := dd9_27.2.2.2.2.2.2.2.2.2.2.2.2.2.1
theorem d9_45 : decode prog_3_method_4_code 45 = .ok (.iconst 0, 1) := dd9_27.2.2.2.2.2.2.2.2.2.2.2.2.2.2.1
theorem d9_46 : decode prog_3_method_4_code 46 = .ok (.iastore, 1) := dd9_27.2.2.2.2.2.2.2.2.2.2.2.2.2.2.2
theorem dd9_47 : (decode prog_3_method_4_code 47 = .ok (.iinc 3 1, 3)) ∧ (decode prog_3_method_4_code 50 = .ok (.goto (-19), 3)) ∧ (decode prog_3_method_4_code 53 = .ok (.aload_n 0, 1)) ∧ (decode prog_3_method_4_code 54 = .ok (.getfield 24, 3)) ∧ (decode prog_3_method_4_code 57 = .ok (.iload_n 2, 1)) ∧ (decode prog_3_method_4_code 58 = .ok (.iconst 0, 1)) ∧ (decode prog_3_method_4_code 59 = .ok (.iastore, 1)) ∧ (decode prog_3_method_4_code 60 = .ok (.aload_n 0, 1)) ∧ (decode prog_3_method_4_code 61 = .ok (.getfield 27, 3)) ∧ (decode prog_3_method_4_code 64 = .ok (.iload_n 2, 1)) ∧ (decode prog_3_method_4_code 65 = .ok (.iconst 0, 1)) ∧ (decode prog_3_method_4_code 66 = .ok (.iastore, 1)) ∧ (decode prog_3_method_4_code 67 = .ok (.aload_n 0, 1)) ∧ (decode prog_3_method_4_code 68 = .ok (.dup, 1)) ∧ (decode prog_3_method_4_code 69 = .ok (.getfield 62, 3)) ∧ (decode prog_3_method_4_code 72 = .ok (.iconst 1, 1)) := by decide +kernel
theorem d9_47 : decode prog_3_method_4_code 47 = .ok (.iinc 3 1, 3) := dd9_47.1
theorem d9_50 : decode prog_3_method_4_code 50 = .ok (.goto (-19), 3) := dd9_47.2.1
theorem d9_53 : decode prog_3_method_4_code 53 = .ok (.aload_n 0, 1) := dd9_47.2.2.1
theorem d9_54 : decode prog_3_method_4_code 54 = .ok (.getfield 24, 3) := dd9_47.2.2.2.1
theorem d9_57 : decode prog_3_method_4_code 57 = .ok (.iload_n 2, 1) := dd9_47.2.2.2.2.1
theorem d9_58 : decode prog_3_method_4_code 58 = .ok (.iconst 0, 1) := dd9_47.2.2.2.2.2.1
theorem d9_59 : decode prog_3_method_4_code 59 = .ok (.iastore, 1) := dd9_47.2.2.2.2.2.2.1
theorem d9_60 : decode prog_3_method_4_code 60 = .ok (.aload_n 0, 1) := dd9_47.2.2.2.2.2.2.2.1
theorem d9_61 : decode prog_3_method_4_code 61 = .ok (.getfield 27, 3) := dd9_47.2.2.2.2.2.2.2.2.1
theorem d9_64 : decode prog_3_method_4_code 64 = .ok (.iload_n 2, 1) := dd9_47.2.2.2.2.2.2.2.2.2.1
theorem d9_65 : decode prog_3_method_4_code 65 = .ok (.iconst 0, 1) := dd9_47.2.2.2.2.2.2.2.2.2.2.1
theorem d9_66 : decode prog_3_method_4_code 66 = .ok (.iastore, 1) := dd9_47.2.2.2.2.2.2.2.2.2.2.2.1
theorem d9_67 : decode prog_3_method_4_code 67 = .ok (.aload_n 0, 1) := dd9_47.2.2.2.2.2.2.2.2.2.2.2.2.1
theorem d9_68 : decode prog_3_method_4_code 68 = .ok (.dup, 1) := dd9_47.2.2.2.2.2.2.2.2.2.2.2.2.2.1
theorem d9_69 : decode prog_3_method_4_code 69 = .ok (.getfield 62, 3) := dd9_47.2.2.2.2.2.2.2.2.2.2.2.2.2.2.1
theorem d9_72 : decode prog_3_method_4_code 72 = .ok (.iconst 1, 1) := dd9_47.2.2.2.2.2.2.2.2.2.2.2.2.2.2.2
theorem dd9_73 : (decode prog_3_method_4_code 73 = .ok (.iadd, 1)) ∧ (decode prog_3_method_4_code 74 = .ok (.putfield 62, 3)) ∧ (decode prog_3_method_4_code 77 = .ok (.aload_n 0, 1)) ∧ (decode prog_3_method_4_code 78 = .ok (.iload_n 2, 1)) ∧ (decode prog_3_method_4_code 79 = .ok (.invokevirtual 80, 3)) ∧ (decode prog_3_method_4_code 82 = .ok (.return_, 1)) := by decide +kernel
theorem d9_73 : decode prog_3_method_4_code 73 = .ok (.iadd, 1) := dd9_73.1
theorem d9_74 : decode prog_3_method_4_code 74 = .ok (.putfield 62, 3) := dd9_73.2.1
theorem d9_77 : decode prog_3_method_4_code 77 = .ok (.aload_n 0, 1) := dd9_73.2.2.1
theorem d9_78 : decode prog_3_method_4_code 78 = .ok (.iload_n 2, 1) := dd9_73.2.2.2.1
theorem d9_79 : decode prog_3_method_4_code 79 = .ok (.invokevirtual 80, 3) := dd9_73.2.2.2.2.1
theorem d9_82 : decode prog_3_method_4_code 82 = .ok (.return_, 1) := dd9_73.2.2.2.2.2
theorem b9_0 {d : Nat} {S : mm_S} {a0 : Nat} {a1 : Nat} (h0 : mm_obj S a0 1 = true) : mm_ex d 9 0 [.ref a0, .ref a1, .null, .null] [] S =
    if (mm_M S a0 10) < (nI 6) then mm_ex d 9 10 [.ref a0, .ref a1, .null, .null] [] S else mm_ex d 9 9 [.ref a0, .ref a1, .null, .null] [] S :=
  Eq.trans (mx_aload_n t9 d9_0 (x := a0) rfl) <|
  Eq.trans (mx_geti t9 d9_1 rfl fl1_62 h0) <|
  Eq.trans (mx_bipush t9 d9_4 (v := nI 6) rfl) <|
  (mx_clt t9 d9_6 (tgt := 10) (by decide))
theorem b9_9 {d : Nat} {S : mm_S} {a0 : Nat} {a1 : Nat} : mm_ex d 9 9 [.ref a0, .ref a1, .null, .null] [] S =
    some (none, S) :=
  (mx_vret t9 d9_9 rfl)
theorem b9_10 {d : Nat} {S : mm_S} {a0 : Nat} {a1 : Nat} (h0 : mm_obj S a0 1 = true) (h1 : (mm_R S a0 0).isSome = true) (h2 : (mm_arr S (mm_rg S a0 0) 16 || mm_arr S (mm_rg S a0 0) 17 || mm_arr S (mm_rg S a0 0) 18) = true) (h3 : mm_inb (mm_M S a0 10) (mm_N S (mm_rg S a0 0)) = true) (h4 : mm_obj S a1 (if mm_K S (mm_rg S a0 0) = 16 then 0 else if mm_K S (mm_rg S a0 0) = 17 then 6 else 8) = true) : mm_ex d 9 10 [.ref a0, .ref a1, .null, .null] [] S =
    mm_ex d 9 23 [.ref a0, .ref a1, .int (mm_M S a0 10), .null] [.ref a0] (mm_uR S (mm_rg S a0 0) (mm_M S a0 10).toNatClampNeg (some a1)) :=
  Eq.trans (mx_aload_n t9 d9_10 (x := a0) rfl) <|
  Eq.trans (mx_geti t9 d9_11 rfl fl1_62 h0) <|
  Eq.trans (mx_istore_n t9 d9_14 (ls' := [.ref a0, .ref a1, .int (mm_M S a0 10), .null]) rfl rfl) <|
  Eq.trans (mx_aload_n t9 d9_15 (x := a0) rfl) <|
  Eq.trans (mx_getR t9 d9_16 rfl fl1_11 h0 h1) <|
  Eq.trans (mx_iload_n t9 d9_19 (x := mm_M S a0 10) rfl) <|
  Eq.trans (mx_aload_n t9 d9_20 (x := a1) rfl) <|
  Eq.trans (mx_qast2 t9 d9_21 h2 h3 h4) <|
  (mx_aload_n t9 d9_22 (x := a0) rfl)
theorem b9_23 {d : Nat} {S : mm_S} {a0 : Nat} {a1 : Nat} {x2 : Int32} {p0 : Nat} (h0 : mm_obj S p0 1 = true) (h1 : (mm_R S p0 1).isSome = true) (h2 : mm_arr S (mm_rg S p0 1) 13 = true) (h3 : mm_inb x2 (mm_N S (mm_rg S p0 1)) = true) : mm_ex d 9 23 [.ref a0, .ref a1, .int x2, .null] [.ref p0] S =
    mm_ex d 9 31 [.ref a0, .ref a1, .int x2, .int (nI 0)] [] (mm_uM S (mm_rg S p0 1) (x2).toNatClampNeg (-1)) :=
  Eq.trans (mx_getR t9 d9_23 rfl fl1_17 h0 h1) <|
  Eq.trans (mx_iload_n t9 d9_26 (x := x2) rfl) <|
  Eq.trans (mx_iconst t9 d9_27 (v := -1) rfl) <|
  Eq.trans (mx_iast2 t9 d9_28 h2 h3) <|
  Eq.trans (mx_iconst t9 d9_29 (v := nI 0) rfl) <|
  (mx_istore_n t9 d9_30 (ls' := [.ref a0, .ref a1, .int x2, .int (nI 0)]) rfl rfl)
theorem b9_31 {d : Nat} {S : mm_S} {a0 : Nat} {a1 : Nat} {x2 : Int32} {x3 : Int32} : mm_ex d 9 31 [.ref a0, .ref a1, .int x2, .int x3] [] S =
    if (nI 3) ≤ x3 then mm_ex d 9 53 [.ref a0, .ref a1, .int x2, .int x3] [] S else mm_ex d 9 36 [.ref a0, .ref a1, .int x2, .int x3] [] S :=
  Eq.trans (mx_iload_n t9 d9_31 (x := x3) rfl) <|
  Eq.trans (mx_iconst t9 d9_32 (v := nI 3) rfl) <|
  (mx_cge t9 d9_33 (tgt := 53) (by decide))
theorem b9_36 {d : Nat} {S : mm_S} {a0 : Nat} {a1 : Nat} {x2 : Int32} {x3 : Int32} (h0 : mm_obj S a0 1 = true) (h1 : (mm_R S a0 2).isSome = true) (h2 : mm_arr S (mm_rg S a0 2) 13 = true) (h3 : mm_inb ((x2 * (nI 3)) + x3) (mm_N S (mm_rg S a0 2)) = true) : mm_ex d 9 36 [.ref a0, .ref a1, .int x2, .int x3] [] S =
    mm_ex d 9 31 [.ref a0, .ref a1, .int x2, .int (x3 + nI 1)] [] (mm_uM S (mm_rg S a0 2) ((x2 * (nI 3)) + x3).toNatClampNeg (nI 0)) :=
  Eq.trans (mx_aload_n t9 d9_36 (x := a0) rfl) <|
  Eq.trans (mx_getR t9 d9_37 rfl fl1_21 h0 h1) <|
  Eq.trans (mx_iload_n t9 d9_40 (x := x2) rfl) <|
  Eq.trans (mx_iconst t9 d9_41 (v := nI 3) rfl) <|
  Eq.trans (mx_imul t9 d9_42) <|
  Eq.trans (mx_iload_n t9 d9_43 (x := x3) rfl) <|
  Eq.trans (mx_iadd t9 d9_44) <|
  Eq.trans (mx_iconst t9 d9_45 (v := nI 0) rfl) <|
  Eq.trans (mx_iast2 t9 d9_46 h2 h3) <|
  Eq.trans (mx_iinc t9 d9_47 (x := x3) (v := nI 1) (ls' := [.ref a0, .ref a1, .int x2, .int (x3 + nI 1)]) rfl rfl rfl rfl) <|
  (mx_goto t9 d9_50 (tgt := 31) (by decide))
theorem b9_53 {d : Nat} {S : mm_S} {a0 : Nat} {a1 : Nat} {x2 : Int32} {x3 : Int32} (h0 : mm_obj S a0 1 = true) (h1 : (mm_R S a0 3).isSome = true) (h2 : mm_arr S (mm_rg S a0 3) 13 = true) (h3 : mm_inb x2 (mm_N S (mm_rg S a0 3)) = true) (h4 : (mm_R S a0 4).isSome = true) (h5 : mm_arr S (mm_rg S a0 4) 13 = true) (h6 : mm_inb x2 (mm_N S (mm_rg S a0 4)) = true) : mm_ex d 9 53 [.ref a0, .ref a1, .int x2, .int x3] [] S =
    mm_ex d 9 69 [.ref a0, .ref a1, .int x2, .int x3] [.ref a0, .ref a0] (mm_uM (mm_uM S (mm_rg S a0 3) (x2).toNatClampNeg (nI 0)) (mm_rg S a0 4) (x2).toNatClampNeg (nI 0)) :=
  Eq.trans (mx_aload_n t9 d9_53 (x := a0) rfl) <|
  Eq.trans (mx_getR t9 d9_54 rfl fl1_24 h0 h1) <|
  Eq.trans (mx_iload_n t9 d9_57 (x := x2) rfl) <|
  Eq.trans (mx_iconst t9 d9_58 (v := nI 0) rfl) <|
  Eq.trans (mx_iast2 t9 d9_59 h2 h3) <|
  Eq.trans (mx_aload_n t9 d9_60 (x := a0) rfl) <|
  Eq.trans (mx_getR t9 d9_61 rfl fl1_27 h0 h4) <|
  Eq.trans (mx_iload_n t9 d9_64 (x := x2) rfl) <|
  Eq.trans (mx_iconst t9 d9_65 (v := nI 0) rfl) <|
  Eq.trans (mx_iast2 t9 d9_66 h5 h6) <|
  Eq.trans (mx_aload_n t9 d9_67 (x := a0) rfl) <|
  (mx_dupr t9 d9_68)
theorem b9_69 {d : Nat} {S : mm_S} {a0 : Nat} {a1 : Nat} {x2 : Int32} {x3 : Int32} {p0 : Nat} {p1 : Nat} (h0 : mm_obj S p0 1 = true) (h1 : mm_obj S p1 1 = true) (h2 : mm_rk S a0 = 1) : mm_ex (d + 1) 9 69 [.ref a0, .ref a1, .int x2, .int x3] [.ref p0, .ref p1] S =
    mm_bd (mm_cl d 13 [.ref a0, .int x2] (mm_uM S p1 10 ((mm_M S p0 10) + (nI 1)))) (fun v S2 => mm_ex (d + 1) 9 82 [.ref a0, .ref a1, .int x2, .int x3] (v.toList ++ []) S2) :=
  Eq.trans (mx_geti t9 d9_69 rfl fl1_62 h0) <|
  Eq.trans (mx_iconst t9 d9_72 (v := nI 1) rfl) <|
  Eq.trans (mx_iadd t9 d9_73) <|
  Eq.trans (mx_puti2 t9 d9_74 fl1_62 rfl h1) <|
  Eq.trans (mx_aload_n t9 d9_77 (x := a0) rfl) <|
  Eq.trans (mx_iload_n t9 d9_78 (x := x2) rfl) <|
  (mx_virt (st := []) (k := 1) t9 [.int x2] d9_79 vt1_80 rfl rfl (Nat.le_of_ble_eq_true rfl) (Nat.le_of_ble_eq_true rfl) h2)
theorem b9_82 {d : Nat} {S : mm_S} {a0 : Nat} {a1 : Nat} {x2 : Int32} {x3 : Int32} : mm_ex d 9 82 [.ref a0, .ref a1, .int x2, .int x3] [] S =
    some (none, S) :=
  (mx_vret t9 d9_82 rfl)
theorem e9 {d : Nat} {S : mm_S} {a0 : Nat} {a1 : Nat} : mm_cl d 9 [.ref a0, .ref a1] S = mm_ex d 9 0 [.ref a0, .ref a1, .null, .null] [] S := mm_cl_eq t9 (Nat.le_of_ble_eq_true rfl) rfl
/-! X1_open -/
theorem d10_0 : decode prog_3_method_5_code 0 = .ok (.aload_n 0, 1) := by decide +kernel
theorem d10_1 : decode prog_3_method_5_code 1 = .ok (.aload_n 1, 1) := by decide +kernel
theorem d10_2 : decode prog_3_method_5_code 2 = .ok (.putfield 48, 3) := by decide +kernel
theorem d10_5 : decode prog_3_method_5_code 5 = .ok (.aload_n 0, 1) := by decide +kernel
theorem d10_6 : decode prog_3_method_5_code 6 = .ok (.aload_n 1, 1) := by decide +kernel
theorem d10_7 : decode prog_3_method_5_code 7 = .ok (.getfield 52, 3) := by decide +kernel
theorem d10_10 : decode prog_3_method_5_code 10 = .ok (.putfield 55, 3) := by decide +kernel
theorem d10_13 : decode prog_3_method_5_code 13 = .ok (.return_, 1) := by decide +kernel
theorem b10_0 {d : Nat} {S : mm_S} {a0 : Nat} {a1 : Nat} (h0 : mm_obj S a0 1 = true) (h1 : a1 < mm_n S) (h2 : mm_obj S a1 6 = true) : mm_ex d 10 0 [.ref a0, .ref a1] [] S =
    some (none, (mm_uM (mm_uR S a0 8 (some a1)) a0 9 (mm_M S a1 3))) :=
  Eq.trans (mx_aload_n t10 d10_0 (x := a0) rfl) <|
  Eq.trans (mx_aload_n t10 d10_1 (x := a1) rfl) <|
  Eq.trans (mx_putr2 t10 d10_2 fl1_48 rfl h0 h1) <|
  Eq.trans (mx_aload_n t10 d10_5 (x := a0) rfl) <|
  Eq.trans (mx_aload_n t10 d10_6 (x := a1) rfl) <|
  Eq.trans (mx_geti t10 d10_7 rfl fl1_52 h2) <|
  Eq.trans (mx_puti2 t10 d10_10 fl1_55 rfl h0) <|
  (mx_vret t10 d10_13 rfl)
theorem e10 {d : Nat} {S : mm_S} {a0 : Nat} {a1 : Nat} : mm_cl d 10 [.ref a0, .ref a1] S = mm_ex d 10 0 [.ref a0, .ref a1] [] S := mm_cl_eq t10 (Nat.le_of_ble_eq_true rfl) rfl
/-! X1_head -/
theorem d11_0 : decode prog_3_method_6_code 0 = .ok (.aload_n 0, 1) := by decide +kernel
theorem d11_1 : decode prog_3_method_6_code 1 = .ok (.getfield 65, 3) := by decide +kernel
theorem d11_4 : decode prog_3_method_6_code 4 = .ok (.ifCond .le 12, 3) := by decide +kernel
theorem d11_7 : decode prog_3_method_6_code 7 = .ok (.aload_n 0, 1) := by decide +kernel
theorem d11_8 : decode prog_3_method_6_code 8 = .ok (.getfield 30, 3) := by decide +kernel
theorem d11_11 : decode prog_3_method_6_code 11 = .ok (.iconst 0, 1) := by decide +kernel
theorem d11_12 : decode prog_3_method_6_code 12 = .ok (.iaload, 1) := by decide +kernel
theorem d11_13 : decode prog_3_method_6_code 13 = .ok (.goto 4, 3) := by decide +kernel
theorem d11_16 : decode prog_3_method_6_code 16 = .ok (.iconst (-1), 1) := by decide +kernel
theorem d11_17 : decode prog_3_method_6_code 17 = .ok (.ireturn, 1) := by decide +kernel
theorem b11_0 {d : Nat} {S : mm_S} {a0 : Nat} (h0 : mm_obj S a0 1 = true) : mm_ex d 11 0 [.ref a0] [] S =
    if (mm_M S a0 11) ≤ nI 0 then mm_ex d 11 16 [.ref a0] [] S else mm_ex d 11 7 [.ref a0] [] S :=
  Eq.trans (mx_aload_n t11 d11_0 (x := a0) rfl) <|
  Eq.trans (mx_geti t11 d11_1 rfl fl1_65 h0) <|
  (mx_ile t11 d11_4 (tgt := 16) (by decide))
theorem b11_7 {d : Nat} {S : mm_S} {a0 : Nat} (h0 : mm_obj S a0 1 = true) (h1 : (mm_R S a0 5).isSome = true) (h2 : mm_inb (nI 0) (mm_N S (mm_rg S a0 5)) = true) (h3 : mm_arr S (mm_rg S a0 5) 13 = true) : mm_ex d 11 7 [.ref a0] [] S =
    some (some (.int (mm_M S (mm_rg S a0 5) (nI 0).toNatClampNeg)), S) :=
  Eq.trans (mx_aload_n t11 d11_7 (x := a0) rfl) <|
  Eq.trans (mx_getR t11 d11_8 rfl fl1_30 h0 h1) <|
  Eq.trans (mx_iconst t11 d11_11 (v := nI 0) rfl) <|
  Eq.trans (mx_iald t11 d11_12 h3 h2) <|
  Eq.trans (mx_goto t11 d11_13 (tgt := 17) (by decide)) <|
  (mx_iret t11 d11_17 (ty := .int) rfl rfl (fun h => nomatch h))
theorem b11_16 {d : Nat} {S : mm_S} {a0 : Nat} : mm_ex d 11 16 [.ref a0] [] S =
    some (some (.int (-1)), S) :=
  Eq.trans (mx_iconst t11 d11_16 (v := -1) rfl) <|
  (mx_iret t11 d11_17 (ty := .int) rfl rfl (fun h => nomatch h))
theorem e11 {d : Nat} {S : mm_S} {a0 : Nat} : mm_cl d 11 [.ref a0] S = mm_ex d 11 0 [.ref a0] [] S := mm_cl_eq t11 (Nat.le_of_ble_eq_true rfl) rfl
/-! X1_placeOf -/
theorem d12_0 : decode prog_3_method_7_code 0 = .ok (.iconst 0, 1) := by decide +kernel
theorem d12_1 : decode prog_3_method_7_code 1 = .ok (.istore_n 2, 1) := by decide +kernel
theorem d12_2 : decode prog_3_method_7_code 2 = .ok (.iload_n 2, 1) := by decide +kernel
theorem d12_3 : decode prog_3_method_7_code 3 = .ok (.aload_n 0, 1) := by decide +kernel
theorem d12_4 : decode prog_3_method_7_code 4 = .ok (.getfield 65, 3) := by decide +kernel
theorem d12_7 : decode prog_3_method_7_code 7 = .ok (.if_icmp .ge 21, 3) := by decide +kernel
theorem d12_10 : decode prog_3_method_7_code 10 = .ok (.aload_n 0, 1) := by decide +kernel
theorem d12_11 : decode prog_3_method_7_code 11 = .ok (.getfield 30, 3) := by decide +kernel
theorem d12_14 : decode prog_3_method_7_code 14 = .ok (.iload_n 2, 1) := by decide +kernel
theorem d12_15 : decode prog_3_method_7_code 15 = .ok (.iaload, 1) := by decide +kernel
theorem d12_16 : decode prog_3_method_7_code 16 = .ok (.iload_n 1, 1) := by decide +kernel
theorem d12_17 : decode prog_3_method_7_code 17 = .ok (.if_icmp .ne 5, 3) := by decide +kernel
theorem d12_20 : decode prog_3_method_7_code 20 = .ok (.iload_n 2, 1) := by decide +kernel
theorem d12_21 : decode prog_3_method_7_code 21 = .ok (.ireturn, 1) := by decide +kernel
theorem d12_22 : decode prog_3_method_7_code 22 = .ok (.iinc 2 1, 3) := by decide +kernel
theorem d12_25 : decode prog_3_method_7_code 25 = .ok (.goto (-23), 3) := by decide +kernel
theorem d12_28 : decode prog_3_method_7_code 28 = .ok (.iconst (-1), 1) := by decide +kernel
theorem d12_29 : decode prog_3_method_7_code 29 = .ok (.ireturn, 1) := by decide +kernel
theorem b12_0 {d : Nat} {S : mm_S} {a0 : Nat} {x1 : Int32} : mm_ex d 12 0 [.ref a0, .int x1, .null] [] S =
    mm_ex d 12 2 [.ref a0, .int x1, .int (nI 0)] [] S :=
  Eq.trans (mx_iconst t12 d12_0 (v := nI 0) rfl) <|
  (mx_istore_n t12 d12_1 (ls' := [.ref a0, .int x1, .int (nI 0)]) rfl rfl)
theorem b12_2 {d : Nat} {S : mm_S} {a0 : Nat} {x1 : Int32} {x2 : Int32} (h0 : mm_obj S a0 1 = true) : mm_ex d 12 2 [.ref a0, .int x1, .int x2] [] S =
    if (mm_M S a0 11) ≤ x2 then mm_ex d 12 28 [.ref a0, .int x1, .int x2] [] S else mm_ex d 12 10 [.ref a0, .int x1, .int x2] [] S :=
  Eq.trans (mx_iload_n t12 d12_2 (x := x2) rfl) <|
  Eq.trans (mx_aload_n t12 d12_3 (x := a0) rfl) <|
  Eq.trans (mx_geti t12 d12_4 rfl fl1_65 h0) <|
  (mx_cge t12 d12_7 (tgt := 28) (by decide))
theorem b12_10 {d : Nat} {S : mm_S} {a0 : Nat} {x1 : Int32} {x2 : Int32} (h0 : mm_obj S a0 1 = true) (h1 : (mm_R S a0 5).isSome = true) (h2 : mm_inb x2 (mm_N S (mm_rg S a0 5)) = true) (h3 : mm_arr S (mm_rg S a0 5) 13 = true) : mm_ex d 12 10 [.ref a0, .int x1, .int x2] [] S =
    if (mm_M S (mm_rg S a0 5) (x2).toNatClampNeg) = x1 then mm_ex d 12 20 [.ref a0, .int x1, .int x2] [] S else mm_ex d 12 22 [.ref a0, .int x1, .int x2] [] S :=
  Eq.trans (mx_aload_n t12 d12_10 (x := a0) rfl) <|
  Eq.trans (mx_getR t12 d12_11 rfl fl1_30 h0 h1) <|
  Eq.trans (mx_iload_n t12 d12_14 (x := x2) rfl) <|
  Eq.trans (mx_iald t12 d12_15 h3 h2) <|
  Eq.trans (mx_iload_n t12 d12_16 (x := x1) rfl) <|
  (mx_cne t12 d12_17 (tgt := 22) (by decide))
theorem b12_20 {d : Nat} {S : mm_S} {a0 : Nat} {x1 : Int32} {x2 : Int32} : mm_ex d 12 20 [.ref a0, .int x1, .int x2] [] S =
    some (some (.int x2), S) :=
  Eq.trans (mx_iload_n t12 d12_20 (x := x2) rfl) <|
  (mx_iret t12 d12_21 (ty := .int) rfl rfl (fun h => nomatch h))
theorem b12_22 {d : Nat} {S : mm_S} {a0 : Nat} {x1 : Int32} {x2 : Int32} : mm_ex d 12 22 [.ref a0, .int x1, .int x2] [] S =
    mm_ex d 12 2 [.ref a0, .int x1, .int (x2 + nI 1)] [] S :=
  Eq.trans (mx_iinc t12 d12_22 (x := x2) (v := nI 1) (ls' := [.ref a0, .int x1, .int (x2 + nI 1)]) rfl rfl rfl rfl) <|
  (mx_goto t12 d12_25 (tgt := 2) (by decide))
theorem b12_28 {d : Nat} {S : mm_S} {a0 : Nat} {x1 : Int32} {x2 : Int32} : mm_ex d 12 28 [.ref a0, .int x1, .int x2] [] S =
    some (some (.int (-1)), S) :=
  Eq.trans (mx_iconst t12 d12_28 (v := -1) rfl) <|
  (mx_iret t12 d12_29 (ty := .int) rfl rfl (fun h => nomatch h))
theorem e12 {d : Nat} {S : mm_S} {a0 : Nat} {x1 : Int32} : mm_cl d 12 [.ref a0, .int x1] S = mm_ex d 12 0 [.ref a0, .int x1, .null] [] S := mm_cl_eq t12 (Nat.le_of_ble_eq_true rfl) rfl
/-! X1_stand -/
theorem d13_0 : decode prog_3_method_8_code 0 = .ok (.aload_n 0, 1) := by decide +kernel
theorem d13_1 : decode prog_3_method_8_code 1 = .ok (.getfield 65, 3) := by decide +kernel
theorem d13_4 : decode prog_3_method_8_code 4 = .ok (.bipush 6, 2) := by decide +kernel
theorem d13_6 : decode prog_3_method_8_code 6 = .ok (.if_icmp .ge 23, 3) := by decide +kernel
theorem d13_9 : decode prog_3_method_8_code 9 = .ok (.aload_n 0, 1) := by decide +kernel
theorem d13_10 : decode prog_3_method_8_code 10 = .ok (.getfield 30, 3) := by decide +kernel
theorem d13_13 : decode prog_3_method_8_code 13 = .ok (.aload_n 0, 1) := by decide +kernel
theorem d13_14 : decode prog_3_method_8_code 14 = .ok (.getfield 65, 3) := by decide +kernel
theorem d13_17 : decode prog_3_method_8_code 17 = .ok (.iload_n 1, 1) := by decide +kernel
theorem d13_18 : decode prog_3_method_8_code 18 = .ok (.iastore, 1) := by decide +kernel
theorem d13_19 : decode prog_3_method_8_code 19 = .ok (.aload_n 0, 1) := by decide +kernel
theorem d13_20 : decode prog_3_method_8_code 20 = .ok (.dup, 1) := by decide +kernel
theorem d13_21 : decode prog_3_method_8_code 21 = .ok (.getfield 65, 3) := by decide +kernel
theorem d13_24 : decode prog_3_method_8_code 24 = .ok (.iconst 1, 1) := by decide +kernel
theorem d13_25 : decode prog_3_method_8_code 25 = .ok (.iadd, 1) := by decide +kernel
theorem d13_26 : decode prog_3_method_8_code 26 = .ok (.putfield 65, 3) := by decide +kernel
theorem d13_29 : decode prog_3_method_8_code 29 = .ok (.return_, 1) := by decide +kernel
theorem b13_0 {d : Nat} {S : mm_S} {a0 : Nat} {x1 : Int32} (h0 : mm_obj S a0 1 = true) : mm_ex d 13 0 [.ref a0, .int x1] [] S =
    if (nI 6) ≤ (mm_M S a0 11) then mm_ex d 13 29 [.ref a0, .int x1] [] S else mm_ex d 13 9 [.ref a0, .int x1] [] S :=
  Eq.trans (mx_aload_n t13 d13_0 (x := a0) rfl) <|
  Eq.trans (mx_geti t13 d13_1 rfl fl1_65 h0) <|
  Eq.trans (mx_bipush t13 d13_4 (v := nI 6) rfl) <|
  (mx_cge t13 d13_6 (tgt := 29) (by decide))
theorem b13_9 {d : Nat} {S : mm_S} {a0 : Nat} {x1 : Int32} (h0 : mm_obj S a0 1 = true) (h1 : (mm_R S a0 5).isSome = true) (h2 : mm_arr S (mm_rg S a0 5) 13 = true) (h3 : mm_inb (mm_M S a0 11) (mm_N S (mm_rg S a0 5)) = true) : mm_ex d 13 9 [.ref a0, .int x1] [] S =
    mm_ex d 13 21 [.ref a0, .int x1] [.ref a0, .ref a0] (mm_uM S (mm_rg S a0 5) (mm_M S a0 11).toNatClampNeg x1) :=
  Eq.trans (mx_aload_n t13 d13_9 (x := a0) rfl) <|
  Eq.trans (mx_getR t13 d13_10 rfl fl1_30 h0 h1) <|
  Eq.trans (mx_aload_n t13 d13_13 (x := a0) rfl) <|
  Eq.trans (mx_geti t13 d13_14 rfl fl1_65 h0) <|
  Eq.trans (mx_iload_n t13 d13_17 (x := x1) rfl) <|
  Eq.trans (mx_iast2 t13 d13_18 h2 h3) <|
  Eq.trans (mx_aload_n t13 d13_19 (x := a0) rfl) <|
  (mx_dupr t13 d13_20)
theorem b13_21 {d : Nat} {S : mm_S} {a0 : Nat} {x1 : Int32} {p0 : Nat} {p1 : Nat} (h0 : mm_obj S p0 1 = true) (h1 : mm_obj S p1 1 = true) : mm_ex d 13 21 [.ref a0, .int x1] [.ref p0, .ref p1] S =
    some (none, (mm_uM S p1 11 ((mm_M S p0 11) + (nI 1)))) :=
  Eq.trans (mx_geti t13 d13_21 rfl fl1_65 h0) <|
  Eq.trans (mx_iconst t13 d13_24 (v := nI 1) rfl) <|
  Eq.trans (mx_iadd t13 d13_25) <|
  Eq.trans (mx_puti2 t13 d13_26 fl1_65 rfl h1) <|
  (mx_vret t13 d13_29 rfl)
theorem b13_29 {d : Nat} {S : mm_S} {a0 : Nat} {x1 : Int32} : mm_ex d 13 29 [.ref a0, .int x1] [] S =
    some (none, S) :=
  (mx_vret t13 d13_29 rfl)
theorem e13 {d : Nat} {S : mm_S} {a0 : Nat} {x1 : Int32} : mm_cl d 13 [.ref a0, .int x1] S = mm_ex d 13 0 [.ref a0, .int x1] [] S := mm_cl_eq t13 (Nat.le_of_ble_eq_true rfl) rfl
/-! X1_leave -/
theorem dd14_0 : (decode prog_3_method_9_code 0 = .ok (.iload_n 1, 1)) ∧ (decode prog_3_method_9_code 1 = .ok (.ifCond .lt 11, 3)) ∧ (decode prog_3_method_9_code 4 = .ok (.iload_n 1, 1)) ∧ (decode prog_3_method_9_code 5 = .ok (.aload_n 0, 1)) ∧ (decode prog_3_method_9_code 6 = .ok (.getfield 65, 3)) ∧ (decode prog_3_method_9_code 9 = .ok (.if_icmp .lt 4, 3)) ∧ (decode prog_3_method_9_code 12 = .ok (.return_, 1)) ∧ (decode prog_3_method_9_code 13 = .ok (.aload_n 0, 1)) ∧ (decode prog_3_method_9_code 14 = .ok (.dup, 1)) ∧ (decode prog_3_method_9_code 15 = .ok (.getfield 65, 3)) ∧ (decode prog_3_method_9_code 18 = .ok (.iconst 1, 1)) ∧ (decode prog_3_method_9_code 19 = .ok (.isub, 1)) ∧ (decode prog_3_method_9_code 20 = .ok (.putfield 65, 3)) ∧ (decode prog_3_method_9_code 23 = .ok (.iload_n 1, 1)) ∧ (decode prog_3_method_9_code 24 = .ok (.istore_n 2, 1)) ∧ (decode prog_3_method_9_code 25 = .ok (.iload_n 2, 1)) := by decide +kernel
theorem d14_0 : decode prog_3_method_9_code 0 = .ok (.iload_n 1, 1) := dd14_0.1
theorem d14_1 : decode prog_3_method_9_code 1 = .ok (.ifCond .lt 11, 3) := dd14_0.2.1
theorem d14_4 : decode prog_3_method_9_code 4 = .ok (.iload_n 1, 1) := dd14_0.2.2.1
theorem d14_5 : decode prog_3_method_9_code 5 = .ok (.aload_n 0, 1) := dd14_0.2.2.2.1
theorem d14_6 : decode prog_3_method_9_code 6 = .ok (.getfield 65, 3) := dd14_0.2.2.2.2.1
theorem d14_9 : decode prog_3_method_9_code 9 = .ok (.if_icmp .lt 4, 3) := dd14_0.2.2.2.2.2.1
theorem d14_12 : decode prog_3_method_9_code 12 = .ok (.return_, 1) := dd14_0.2.2.2.2.2.2.1
theorem d14_13 : decode prog_3_method_9_code 13 = .ok (.aload_n 0, 1) := dd14_0.2.2.2.2.2.2.2.1
theorem d14_14 : decode prog_3_method_9_code 14 = .ok (.dup, 1) := dd14_0.2.2.2.2.2.2.2.2.1
theorem d14_15 : decode prog_3_method_9_code 15 = .ok (.getfield 65, 3) := dd14_0.2.2.2.2.2.2.2.2.2.1
theorem d14_18 : decode prog_3_method_9_code 18 = .ok (.iconst 1, 1) := dd14_0.2.2.2.2.2.2.2.2.2.2.1
theorem d14_19 : decode prog_3_method_9_code 19 = .ok (.isub, 1) := dd14_0.2.2.2.2.2.2.2.2.2.2.2.1
theorem d14_20 : decode prog_3_method_9_code 20 = .ok (.putfield 65, 3) := dd14_0.2.2.2.2.2.2.2.2.2.2.2.2.1
theorem d14_23 : decode prog_3_method_9_code 23 = .ok (.iload_n 1, 1) := dd14_0.2.2.2.2.2.2.2.2.2.2.2.2.2.1
theorem d14_24 : decode prog_3_method_9_code 24 = .ok (.istore_n 2, 1) := dd14_0.2.2.2.2.2.2.2.2.2.2.2.2.2.2.1
theorem d14_25 : decode prog_3_method_9_code 25 = .ok (.iload_n 2, 1) := dd14_0.2.2.2.2.2.2.2.2.2.2.2.2.2.2.2
theorem dd14_26 : (decode prog_3_method_9_code 26 = .ok (.aload_n 0, 1)) ∧ (decode prog_3_method_9_code 27 = .ok (.getfield 65, 3)) ∧ (decode prog_3_method_9_code 30 = .ok (.if_icmp .ge 23, 3)) ∧ (decode prog_3_method_9_code 33 = .ok (.aload_n 0, 1)) ∧ (decode prog_3_method_9_code 34 = .ok (.getfield 30, 3)) ∧ (decode prog_3_method_9_code 37 = .ok (.iload_n 2, 1)) ∧ (decode prog_3_method_9_code 38 = .ok (.aload_n 0, 1)) ∧ (decode prog_3_method_9_code 39 = .ok (.getfield 30, 3)) ∧ (decode prog_3_method_9_code 42 = .ok (.iload_n 2, 1)) ∧ (decode prog_3_method_9_code 43 = .ok (.iconst 1, 1)) ∧ (decode prog_3_method_9_code 44 = .ok (.iadd, 1)) ∧ (decode prog_3_method_9_code 45 = .ok (.iaload, 1)) ∧ (decode prog_3_method_9_code 46 = .ok (.iastore, 1)) ∧ (decode prog_3_method_9_code 47 = .ok (.iinc 2 1, 3)) ∧ (decode prog_3_method_9_code 50 = .ok (.goto (-25), 3)) ∧ (decode prog_3_method_9_code 53 = .ok (.return_, 1)) := by decide +kernel
theorem d14_26 : decode prog_3_method_9_code 26 = .ok (.aload_n 0, 1) := dd14_26.1
theorem d14_27 : decode prog_3_method_9_code 27 = .ok (.getfield 65, 3) := dd14_26.2.1
theorem d14_30 : decode prog_3_method_9_code 30 = .ok (.if_icmp .ge 23, 3) := dd14_26.2.2.1
theorem d14_33 : decode prog_3_method_9_code 33 = .ok (.aload_n 0, 1) := dd14_26.2.2.2.1
theorem d14_34 : decode prog_3_method_9_code 34 = .ok (.getfield 30, 3) := dd14_26.2.2.2.2.1
theorem d14_37 : decode prog_3_method_9_code 37 = .ok (.iload_n 2, 1) := dd14_26.2.2.2.2.2.1
theorem d14_38 : decode prog_3_method_9_code 38 = .ok (.aload_n 0, 1) := dd14_26.2.2.2.2.2.2.1
theorem d14_39 : decode prog_3_method_9_code 39 = .ok (.getfield 30, 3) := dd14_26.2.2.2.2.2.2.2.1
theorem d14_42 : decode prog_3_method_9_code 42 = .ok (.iload_n 2, 1) := dd14_26.2.2.2.2.2.2.2.2.1
theorem d14_43 : decode prog_3_method_9_code 43 = .ok (.iconst 1, 1) := dd14_26.2.2.2.2.2.2.2.2.2.1
theorem d14_44 : decode prog_3_method_9_code 44 = .ok (.iadd, 1) := dd14_26.2.2.2.2.2.2.2.2.2.2.1
theorem d14_45 : decode prog_3_method_9_code 45 = .ok (.iaload, 1) := dd14_26.2.2.2.2.2.2.2.2.2.2.2.1
theorem d14_46 : decode prog_3_method_9_code 46 = .ok (.iastore, 1) := dd14_26.2.2.2.2.2.2.2.2.2.2.2.2.1
theorem d14_47 : decode prog_3_method_9_code 47 = .ok (.iinc 2 1, 3) := dd14_26.2.2.2.2.2.2.2.2.2.2.2.2.2.1
theorem d14_50 : decode prog_3_method_9_code 50 = .ok (.goto (-25), 3) := dd14_26.2.2.2.2.2.2.2.2.2.2.2.2.2.2.1
theorem d14_53 : decode prog_3_method_9_code 53 = .ok (.return_, 1) := dd14_26.2.2.2.2.2.2.2.2.2.2.2.2.2.2.2
theorem b14_0 {d : Nat} {S : mm_S} {a0 : Nat} {x1 : Int32} : mm_ex d 14 0 [.ref a0, .int x1, .null] [] S =
    if x1 < nI 0 then mm_ex d 14 12 [.ref a0, .int x1, .null] [] S else mm_ex d 14 4 [.ref a0, .int x1, .null] [] S :=
  Eq.trans (mx_iload_n t14 d14_0 (x := x1) rfl) <|
  (mx_ilt t14 d14_1 (tgt := 12) (by decide))
theorem b14_4 {d : Nat} {S : mm_S} {a0 : Nat} {x1 : Int32} (h0 : mm_obj S a0 1 = true) : mm_ex d 14 4 [.ref a0, .int x1, .null] [] S =
    if x1 < (mm_M S a0 11) then mm_ex d 14 13 [.ref a0, .int x1, .null] [] S else mm_ex d 14 12 [.ref a0, .int x1, .null] [] S :=
  Eq.trans (mx_iload_n t14 d14_4 (x := x1) rfl) <|
  Eq.trans (mx_aload_n t14 d14_5 (x := a0) rfl) <|
  Eq.trans (mx_geti t14 d14_6 rfl fl1_65 h0) <|
  (mx_clt t14 d14_9 (tgt := 13) (by decide))
theorem b14_12 {d : Nat} {S : mm_S} {a0 : Nat} {x1 : Int32} : mm_ex d 14 12 [.ref a0, .int x1, .null] [] S =
    some (none, S) :=
  (mx_vret t14 d14_12 rfl)
theorem b14_13 {d : Nat} {S : mm_S} {a0 : Nat} {x1 : Int32} (h0 : mm_obj S a0 1 = true) : mm_ex d 14 13 [.ref a0, .int x1, .null] [] S =
    mm_ex d 14 25 [.ref a0, .int x1, .int x1] [] (mm_uM S a0 11 ((mm_M S a0 11) - (nI 1))) :=
  Eq.trans (mx_aload_n t14 d14_13 (x := a0) rfl) <|
  Eq.trans (mx_dupr t14 d14_14) <|
  Eq.trans (mx_geti t14 d14_15 rfl fl1_65 h0) <|
  Eq.trans (mx_iconst t14 d14_18 (v := nI 1) rfl) <|
  Eq.trans (mx_isub t14 d14_19) <|
  Eq.trans (mx_puti2 t14 d14_20 fl1_65 rfl h0) <|
  Eq.trans (mx_iload_n t14 d14_23 (x := x1) rfl) <|
  (mx_istore_n t14 d14_24 (ls' := [.ref a0, .int x1, .int x1]) rfl rfl)
theorem b14_25 {d : Nat} {S : mm_S} {a0 : Nat} {x1 : Int32} {x2 : Int32} (h0 : mm_obj S a0 1 = true) : mm_ex d 14 25 [.ref a0, .int x1, .int x2] [] S =
    if (mm_M S a0 11) ≤ x2 then mm_ex d 14 53 [.ref a0, .int x1, .int x2] [] S else mm_ex d 14 33 [.ref a0, .int x1, .int x2] [] S :=
  Eq.trans (mx_iload_n t14 d14_25 (x := x2) rfl) <|
  Eq.trans (mx_aload_n t14 d14_26 (x := a0) rfl) <|
  Eq.trans (mx_geti t14 d14_27 rfl fl1_65 h0) <|
  (mx_cge t14 d14_30 (tgt := 53) (by decide))
theorem b14_33 {d : Nat} {S : mm_S} {a0 : Nat} {x1 : Int32} {x2 : Int32} (h0 : mm_obj S a0 1 = true) (h1 : (mm_R S a0 5).isSome = true) (h2 : mm_inb (x2 + (nI 1)) (mm_N S (mm_rg S a0 5)) = true) (h3 : mm_arr S (mm_rg S a0 5) 13 = true) (h4 : mm_inb x2 (mm_N S (mm_rg S a0 5)) = true) : mm_ex d 14 33 [.ref a0, .int x1, .int x2] [] S =
    mm_ex d 14 25 [.ref a0, .int x1, .int (x2 + nI 1)] [] (mm_uM S (mm_rg S a0 5) (x2).toNatClampNeg (mm_M S (mm_rg S a0 5) (x2 + (nI 1)).toNatClampNeg)) :=
  Eq.trans (mx_aload_n t14 d14_33 (x := a0) rfl) <|
  Eq.trans (mx_getR t14 d14_34 rfl fl1_30 h0 h1) <|
  Eq.trans (mx_iload_n t14 d14_37 (x := x2) rfl) <|
  Eq.trans (mx_aload_n t14 d14_38 (x := a0) rfl) <|
  Eq.trans (mx_getR t14 d14_39 rfl fl1_30 h0 h1) <|
  Eq.trans (mx_iload_n t14 d14_42 (x := x2) rfl) <|
  Eq.trans (mx_iconst t14 d14_43 (v := nI 1) rfl) <|
  Eq.trans (mx_iadd t14 d14_44) <|
  Eq.trans (mx_iald t14 d14_45 h3 h2) <|
  Eq.trans (mx_iast2 t14 d14_46 h3 h4) <|
  Eq.trans (mx_iinc t14 d14_47 (x := x2) (v := nI 1) (ls' := [.ref a0, .int x1, .int (x2 + nI 1)]) rfl rfl rfl rfl) <|
  (mx_goto t14 d14_50 (tgt := 25) (by decide))
theorem b14_53 {d : Nat} {S : mm_S} {a0 : Nat} {x1 : Int32} {x2 : Int32} : mm_ex d 14 53 [.ref a0, .int x1, .int x2] [] S =
    some (none, S) :=
  (mx_vret t14 d14_53 rfl)
theorem e14 {d : Nat} {S : mm_S} {a0 : Nat} {x1 : Int32} : mm_cl d 14 [.ref a0, .int x1] S = mm_ex d 14 0 [.ref a0, .int x1, .null] [] S := mm_cl_eq t14 (Nat.le_of_ble_eq_true rfl) rfl
/-! X1_putAhead -/
theorem dd15_0 : (decode prog_3_method_10_code 0 = .ok (.aload_n 0, 1)) ∧ (decode prog_3_method_10_code 1 = .ok (.aload_n 0, 1)) ∧ (decode prog_3_method_10_code 2 = .ok (.iload_n 1, 1)) ∧ (decode prog_3_method_10_code 3 = .ok (.invokevirtual 84, 3)) ∧ (decode prog_3_method_10_code 6 = .ok (.invokevirtual 88, 3)) ∧ (decode prog_3_method_10_code 9 = .ok (.aload_n 0, 1)) ∧ (decode prog_3_method_10_code 10 = .ok (.getfield 65, 3)) ∧ (decode prog_3_method_10_code 13 = .ok (.bipush 6, 2)) ∧ (decode prog_3_method_10_code 15 = .ok (.if_icmp .lt 4, 3)) ∧ (decode prog_3_method_10_code 18 = .ok (.return_, 1)) ∧ (decode prog_3_method_10_code 19 = .ok (.aload_n 0, 1)) ∧ (decode prog_3_method_10_code 20 = .ok (.getfield 65, 3)) ∧ (decode prog_3_method_10_code 23 = .ok (.istore_n 2, 1)) ∧ (decode prog_3_method_10_code 24 = .ok (.iload_n 2, 1)) ∧ (decode prog_3_method_10_code 25 = .ok (.ifCond .le 23, 3)) ∧ (decode prog_3_method_10_code 28 = .ok (.aload_n 0, 1)) := by decide +kernel
theorem d15_0 : decode prog_3_method_10_code 0 = .ok (.aload_n 0, 1) := dd15_0.1
theorem d15_1 : decode prog_3_method_10_code 1 = .ok (.aload_n 0, 1) := dd15_0.2.1
theorem d15_2 : decode prog_3_method_10_code 2 = .ok (.iload_n 1, 1) := dd15_0.2.2.1
theorem d15_3 : decode prog_3_method_10_code 3 = .ok (.invokevirtual 84, 3) := dd15_0.2.2.2.1
theorem d15_6 : decode prog_3_method_10_code 6 = .ok (.invokevirtual 88, 3) := dd15_0.2.2.2.2.1
theorem d15_9 : decode prog_3_method_10_code 9 = .ok (.aload_n 0, 1) := dd15_0.2.2.2.2.2.1
theorem d15_10 : decode prog_3_method_10_code 10 = .ok (.getfield 65, 3) := dd15_0.2.2.2.2.2.2.1
theorem d15_13 : decode prog_3_method_10_code 13 = .ok (.bipush 6, 2) := dd15_0.2.2.2.2.2.2.2.1
theorem d15_15 : decode prog_3_method_10_code 15 = .ok (.if_icmp .lt 4, 3) := dd15_0.2.2.2.2.2.2.2.2.1
theorem d15_18 : decode prog_3_method_10_code 18 = .ok (.return_, 1) := dd15_0.2.2.2.2.2.2.2.2.2.1
theorem d15_19 : decode prog_3_method_10_code 19 = .ok (.aload_n 0, 1) := dd15_0.2.2.2.2.2.2.2.2.2.2.1
theorem d15_20 : decode prog_3_method_10_code 20 = .ok (.getfield 65, 3) := dd15_0.2.2.2.2.2.2.2.2.2.2.2.1
theorem d15_23 : decode prog_3_method_10_code 23 = .ok (.istore_n 2, 1) := dd15_0.2.2.2.2.2.2.2.2.2.2.2.2.1
theorem d15_24 : decode prog_3_method_10_code 24 = .ok (.iload_n 2, 1) := dd15_0.2.2.2.2.2.2.2.2.2.2.2.2.2.1
theorem d15_25 : decode prog_3_method_10_code 25 = .ok (.ifCond .le 23, 3) := dd15_0.2.2.2.2.2.2.2.2.2.2.2.2.2.2.1
theorem d15_28 : decode prog_3_method_10_code 28 = .ok (.aload_n 0, 1) := dd15_0.2.2.2.2.2.2.2.2.2.2.2.2.2.2.2
theorem dd15_29 : (decode prog_3_method_10_code 29 = .ok (.getfield 30, 3)) ∧ (decode prog_3_method_10_code 32 = .ok (.iload_n 2, 1)) ∧ (decode prog_3_method_10_code 33 = .ok (.aload_n 0, 1)) ∧ (decode prog_3_method_10_code 34 = .ok (.getfield 30, 3)) ∧ (decode prog_3_method_10_code 37 = .ok (.iload_n 2, 1)) ∧ (decode prog_3_method_10_code 38 = .ok (.iconst 1, 1)) ∧ (decode prog_3_method_10_code 39 = .ok (.isub, 1)) ∧ (decode prog_3_method_10_code 40 = .ok (.iaload, 1)) ∧ (decode prog_3_method_10_code 41 = .ok (.iastore, 1)) ∧ (decode prog_3_method_10_code 42 = .ok (.iinc 2 (-1), 3)) ∧ (decode prog_3_method_10_code 45 = .ok (.goto (-21), 3)) ∧ (decode prog_3_method_10_code 48 = .ok (.aload_n 0, 1)) ∧ (decode prog_3_method_10_code 49 = .ok (.getfield 30, 3)) ∧ (decode prog_3_method_10_code 52 = .ok (.iconst 0, 1)) ∧ (decode prog_3_method_10_code 53 = .ok (.iload_n 1, 1)) ∧ (decode prog_3_method_10_code 54 = .ok (.iastore, 1)) := by decide +kernel
theorem d15_29 : decode prog_3_method_10_code 29 = .ok (.getfield 30, 3) := dd15_29.1
theorem d15_32 : decode prog_3_method_10_code 32 = .ok (.iload_n 2, 1) := dd15_29.2.1
theorem d15_33 : decode prog_3_method_10_code 33 = .ok (.aload_n 0, 1) := dd15_29.2.2.1
theorem d15_34 : decode prog_3_method_10_code 34 = .ok (.getfield 30, 3) := dd15_29.2.2.2.1
theorem d15_37 : decode prog_3_method_10_code 37 = .ok (.iload_n 2, 1) := dd15_29.2.2.2.2.1
theorem d15_38 : decode prog_3_method_10_code 38 = .ok (.iconst 1, 1) := dd15_29.2.2.2.2.2.1
theorem d15_39 : decode prog_3_method_10_code 39 = .ok (.isub, 1) := dd15_29.2.2.2.2.2.2.1
theorem d15_40 : decode prog_3_method_10_code 40 = .ok (.iaload, 1) := dd15_29.2.2.2.2.2.2.2.1
theorem d15_41 : decode prog_3_method_10_code 41 = .ok (.iastore, 1) := dd15_29.2.2.2.2.2.2.2.2.1
theorem d15_42 : decode prog_3_method_10_code 42 = .ok (.iinc 2 (-1), 3) := dd15_29.2.2.2.2.2.2.2.2.2.1
theorem d15_45 : decode prog_3_method_10_code 45 = .ok (.goto (-21), 3) := dd15_29.2.2.2.2.2.2.2.2.2.2.1
theorem d15_48 : decode prog_3_method_10_code 48 = .ok (.aload_n 0, 1) := dd15_29.2.2.2.2.2.2.2.2.2.2.2.1
theorem d15_49 : decode prog_3_method_10_code 49 = .ok (.getfield 30, 3) := dd15_29.2.2.2.2.2.2.2.2.2.2.2.2.1
theorem d15_52 : decode prog_3_method_10_code 52 = .ok (.iconst 0, 1) := dd15_29.2.2.2.2.2.2.2.2.2.2.2.2.2.1
theorem d15_53 : decode prog_3_method_10_code 53 = .ok (.iload_n 1, 1) := dd15_29.2.2.2.2.2.2.2.2.2.2.2.2.2.2.1
theorem d15_54 : decode prog_3_method_10_code 54 = .ok (.iastore, 1) := dd15_29.2.2.2.2.2.2.2.2.2.2.2.2.2.2.2
theorem dd15_55 : (decode prog_3_method_10_code 55 = .ok (.aload_n 0, 1)) ∧ (decode prog_3_method_10_code 56 = .ok (.dup, 1)) ∧ (decode prog_3_method_10_code 57 = .ok (.getfield 65, 3)) ∧ (decode prog_3_method_10_code 60 = .ok (.iconst 1, 1)) ∧ (decode prog_3_method_10_code 61 = .ok (.iadd, 1)) ∧ (decode prog_3_method_10_code 62 = .ok (.putfield 65, 3)) ∧ (decode prog_3_method_10_code 65 = .ok (.return_, 1)) := by decide +kernel
theorem d15_55 : decode prog_3_method_10_code 55 = .ok (.aload_n 0, 1) := dd15_55.1
theorem d15_56 : decode prog_3_method_10_code 56 = .ok (.dup, 1) := dd15_55.2.1
theorem d15_57 : decode prog_3_method_10_code 57 = .ok (.getfield 65, 3) := dd15_55.2.2.1
theorem d15_60 : decode prog_3_method_10_code 60 = .ok (.iconst 1, 1) := dd15_55.2.2.2.1
theorem d15_61 : decode prog_3_method_10_code 61 = .ok (.iadd, 1) := dd15_55.2.2.2.2.1
theorem d15_62 : decode prog_3_method_10_code 62 = .ok (.putfield 65, 3) := dd15_55.2.2.2.2.2.1
theorem d15_65 : decode prog_3_method_10_code 65 = .ok (.return_, 1) := dd15_55.2.2.2.2.2.2
theorem b15_0 {d : Nat} {S : mm_S} {a0 : Nat} {x1 : Int32} (h0 : mm_rk S a0 = 1) : mm_ex (d + 1) 15 0 [.ref a0, .int x1, .null] [] S =
    mm_bd (mm_cl d 12 [.ref a0, .int x1] S) (fun v S2 => mm_ex (d + 1) 15 6 [.ref a0, .int x1, .null] (v.toList ++ [.ref a0]) S2) :=
  Eq.trans (mx_aload_n t15 d15_0 (x := a0) rfl) <|
  Eq.trans (mx_aload_n t15 d15_1 (x := a0) rfl) <|
  Eq.trans (mx_iload_n t15 d15_2 (x := x1) rfl) <|
  (mx_virt (st := [.ref a0]) (k := 1) t15 [.int x1] d15_3 vt1_84 rfl rfl (Nat.le_of_ble_eq_true rfl) (Nat.le_of_ble_eq_true rfl) h0)
theorem b15_6 {d : Nat} {S : mm_S} {a0 : Nat} {x1 : Int32} {p0 : Int32} {p1 : Nat} (h0 : mm_rk S p1 = 1) : mm_ex (d + 1) 15 6 [.ref a0, .int x1, .null] [.int p0, .ref p1] S =
    mm_bd (mm_cl d 14 [.ref p1, .int p0] S) (fun v S2 => mm_ex (d + 1) 15 9 [.ref a0, .int x1, .null] (v.toList ++ []) S2) :=
  (mx_virt (st := []) (k := 1) t15 [.int p0] d15_6 vt1_88 rfl rfl (Nat.le_of_ble_eq_true rfl) (Nat.le_of_ble_eq_true rfl) h0)
theorem b15_9 {d : Nat} {S : mm_S} {a0 : Nat} {x1 : Int32} (h0 : mm_obj S a0 1 = true) : mm_ex d 15 9 [.ref a0, .int x1, .null] [] S =
    if (mm_M S a0 11) < (nI 6) then mm_ex d 15 19 [.ref a0, .int x1, .null] [] S else mm_ex d 15 18 [.ref a0, .int x1, .null] [] S :=
  Eq.trans (mx_aload_n t15 d15_9 (x := a0) rfl) <|
  Eq.trans (mx_geti t15 d15_10 rfl fl1_65 h0) <|
  Eq.trans (mx_bipush t15 d15_13 (v := nI 6) rfl) <|
  (mx_clt t15 d15_15 (tgt := 19) (by decide))
theorem b15_18 {d : Nat} {S : mm_S} {a0 : Nat} {x1 : Int32} : mm_ex d 15 18 [.ref a0, .int x1, .null] [] S =
    some (none, S) :=
  (mx_vret t15 d15_18 rfl)
theorem b15_19 {d : Nat} {S : mm_S} {a0 : Nat} {x1 : Int32} (h0 : mm_obj S a0 1 = true) : mm_ex d 15 19 [.ref a0, .int x1, .null] [] S =
    mm_ex d 15 24 [.ref a0, .int x1, .int (mm_M S a0 11)] [] S :=
  Eq.trans (mx_aload_n t15 d15_19 (x := a0) rfl) <|
  Eq.trans (mx_geti t15 d15_20 rfl fl1_65 h0) <|
  (mx_istore_n t15 d15_23 (ls' := [.ref a0, .int x1, .int (mm_M S a0 11)]) rfl rfl)
theorem b15_24 {d : Nat} {S : mm_S} {a0 : Nat} {x1 : Int32} {x2 : Int32} : mm_ex d 15 24 [.ref a0, .int x1, .int x2] [] S =
    if x2 ≤ nI 0 then mm_ex d 15 48 [.ref a0, .int x1, .int x2] [] S else mm_ex d 15 28 [.ref a0, .int x1, .int x2] [] S :=
  Eq.trans (mx_iload_n t15 d15_24 (x := x2) rfl) <|
  (mx_ile t15 d15_25 (tgt := 48) (by decide))
theorem b15_28 {d : Nat} {S : mm_S} {a0 : Nat} {x1 : Int32} {x2 : Int32} (h0 : mm_obj S a0 1 = true) (h1 : (mm_R S a0 5).isSome = true) (h2 : mm_inb (x2 - (nI 1)) (mm_N S (mm_rg S a0 5)) = true) (h3 : mm_arr S (mm_rg S a0 5) 13 = true) (h4 : mm_inb x2 (mm_N S (mm_rg S a0 5)) = true) : mm_ex d 15 28 [.ref a0, .int x1, .int x2] [] S =
    mm_ex d 15 24 [.ref a0, .int x1, .int (x2 + (-1))] [] (mm_uM S (mm_rg S a0 5) (x2).toNatClampNeg (mm_M S (mm_rg S a0 5) (x2 - (nI 1)).toNatClampNeg)) :=
  Eq.trans (mx_aload_n t15 d15_28 (x := a0) rfl) <|
  Eq.trans (mx_getR t15 d15_29 rfl fl1_30 h0 h1) <|
  Eq.trans (mx_iload_n t15 d15_32 (x := x2) rfl) <|
  Eq.trans (mx_aload_n t15 d15_33 (x := a0) rfl) <|
  Eq.trans (mx_getR t15 d15_34 rfl fl1_30 h0 h1) <|
  Eq.trans (mx_iload_n t15 d15_37 (x := x2) rfl) <|
  Eq.trans (mx_iconst t15 d15_38 (v := nI 1) rfl) <|
  Eq.trans (mx_isub t15 d15_39) <|
  Eq.trans (mx_iald t15 d15_40 h3 h2) <|
  Eq.trans (mx_iast2 t15 d15_41 h3 h4) <|
  Eq.trans (mx_iinc t15 d15_42 (x := x2) (v := -1) (ls' := [.ref a0, .int x1, .int (x2 + (-1))]) rfl rfl rfl rfl) <|
  (mx_goto t15 d15_45 (tgt := 24) (by decide))
theorem b15_48 {d : Nat} {S : mm_S} {a0 : Nat} {x1 : Int32} {x2 : Int32} (h0 : mm_obj S a0 1 = true) (h1 : (mm_R S a0 5).isSome = true) (h2 : mm_arr S (mm_rg S a0 5) 13 = true) (h3 : mm_inb (nI 0) (mm_N S (mm_rg S a0 5)) = true) : mm_ex d 15 48 [.ref a0, .int x1, .int x2] [] S =
    mm_ex d 15 57 [.ref a0, .int x1, .int x2] [.ref a0, .ref a0] (mm_uM S (mm_rg S a0 5) (nI 0).toNatClampNeg x1) :=
  Eq.trans (mx_aload_n t15 d15_48 (x := a0) rfl) <|
  Eq.trans (mx_getR t15 d15_49 rfl fl1_30 h0 h1) <|
  Eq.trans (mx_iconst t15 d15_52 (v := nI 0) rfl) <|
  Eq.trans (mx_iload_n t15 d15_53 (x := x1) rfl) <|
  Eq.trans (mx_iast2 t15 d15_54 h2 h3) <|
  Eq.trans (mx_aload_n t15 d15_55 (x := a0) rfl) <|
  (mx_dupr t15 d15_56)
theorem b15_57 {d : Nat} {S : mm_S} {a0 : Nat} {x1 : Int32} {x2 : Int32} {p0 : Nat} {p1 : Nat} (h0 : mm_obj S p0 1 = true) (h1 : mm_obj S p1 1 = true) : mm_ex d 15 57 [.ref a0, .int x1, .int x2] [.ref p0, .ref p1] S =
    some (none, (mm_uM S p1 11 ((mm_M S p0 11) + (nI 1)))) :=
  Eq.trans (mx_geti t15 d15_57 rfl fl1_65 h0) <|
  Eq.trans (mx_iconst t15 d15_60 (v := nI 1) rfl) <|
  Eq.trans (mx_iadd t15 d15_61) <|
  Eq.trans (mx_puti2 t15 d15_62 fl1_65 rfl h1) <|
  (mx_vret t15 d15_65 rfl)
theorem e15 {d : Nat} {S : mm_S} {a0 : Nat} {x1 : Int32} : mm_cl d 15 [.ref a0, .int x1] S = mm_ex d 15 0 [.ref a0, .int x1, .null] [] S := mm_cl_eq t15 (Nat.le_of_ble_eq_true rfl) rfl
/-! X1_mayGoAway -/
theorem d16_0 : decode prog_3_method_11_code 0 = .ok (.aload_n 0, 1) := by decide +kernel
theorem d16_1 : decode prog_3_method_11_code 1 = .ok (.getfield 24, 3) := by decide +kernel
theorem d16_4 : decode prog_3_method_11_code 4 = .ok (.iload_n 1, 1) := by decide +kernel
theorem d16_5 : decode prog_3_method_11_code 5 = .ok (.iaload, 1) := by decide +kernel
theorem d16_6 : decode prog_3_method_11_code 6 = .ok (.aload_n 0, 1) := by decide +kernel
theorem d16_7 : decode prog_3_method_11_code 7 = .ok (.getfield 48, 3) := by decide +kernel
theorem d16_10 : decode prog_3_method_11_code 10 = .ok (.getfield 91, 3) := by decide +kernel
theorem d16_13 : decode prog_3_method_11_code 13 = .ok (.if_icmp .ge 7, 3) := by decide +kernel
theorem d16_16 : decode prog_3_method_11_code 16 = .ok (.iconst 1, 1) := by decide +kernel
theorem d16_17 : decode prog_3_method_11_code 17 = .ok (.goto 4, 3) := by decide +kernel
theorem d16_20 : decode prog_3_method_11_code 20 = .ok (.iconst 0, 1) := by decide +kernel
theorem d16_21 : decode prog_3_method_11_code 21 = .ok (.ireturn, 1) := by decide +kernel
theorem b16_0 {d : Nat} {S : mm_S} {a0 : Nat} {x1 : Int32} (h0 : mm_obj S a0 1 = true) (h1 : (mm_R S a0 3).isSome = true) (h2 : mm_inb x1 (mm_N S (mm_rg S a0 3)) = true) (h3 : mm_arr S (mm_rg S a0 3) 13 = true) (h4 : (mm_R S a0 8).isSome = true) (h5 : mm_obj S (mm_rg S a0 8) 6 = true) : mm_ex d 16 0 [.ref a0, .int x1] [] S =
    if (mm_M S (mm_rg S a0 8) 2) ≤ (mm_M S (mm_rg S a0 3) (x1).toNatClampNeg) then mm_ex d 16 20 [.ref a0, .int x1] [] S else mm_ex d 16 16 [.ref a0, .int x1] [] S :=
  Eq.trans (mx_aload_n t16 d16_0 (x := a0) rfl) <|
  Eq.trans (mx_getR t16 d16_1 rfl fl1_24 h0 h1) <|
  Eq.trans (mx_iload_n t16 d16_4 (x := x1) rfl) <|
  Eq.trans (mx_iald t16 d16_5 h3 h2) <|
  Eq.trans (mx_aload_n t16 d16_6 (x := a0) rfl) <|
  Eq.trans (mx_getR t16 d16_7 rfl fl1_48 h0 h4) <|
  Eq.trans (mx_geti t16 d16_10 rfl fl1_91 h5) <|
  (mx_cge t16 d16_13 (tgt := 20) (by decide))
theorem b16_16 {d : Nat} {S : mm_S} {a0 : Nat} {x1 : Int32} : mm_ex d 16 16 [.ref a0, .int x1] [] S =
    some (some (.int (nI 1)), S) :=
  Eq.trans (mx_iconst t16 d16_16 (v := nI 1) rfl) <|
  Eq.trans (mx_goto t16 d16_17 (tgt := 21) (by decide)) <|
  (mx_iret t16 d16_21 (ty := .boolean) rfl rfl (fun h => nomatch h))
theorem b16_20 {d : Nat} {S : mm_S} {a0 : Nat} {x1 : Int32} : mm_ex d 16 20 [.ref a0, .int x1] [] S =
    some (some (.int (nI 0)), S) :=
  Eq.trans (mx_iconst t16 d16_20 (v := nI 0) rfl) <|
  (mx_iret t16 d16_21 (ty := .boolean) rfl rfl (fun h => nomatch h))
theorem e16 {d : Nat} {S : mm_S} {a0 : Nat} {x1 : Int32} : mm_cl d 16 [.ref a0, .int x1] S = mm_ex d 16 0 [.ref a0, .int x1] [] S := mm_cl_eq t16 (Nat.le_of_ble_eq_true rfl) rfl
/-! X1_friendStands -/
theorem d17_0 : decode prog_3_method_12_code 0 = .ok (.aload_n 0, 1) := by decide +kernel
theorem d17_1 : decode prog_3_method_12_code 1 = .ok (.aload_n 0, 1) := by decide +kernel
theorem d17_2 : decode prog_3_method_12_code 2 = .ok (.getfield 17, 3) := by decide +kernel
theorem d17_5 : decode prog_3_method_12_code 5 = .ok (.iload_n 1, 1) := by decide +kernel
theorem d17_6 : decode prog_3_method_12_code 6 = .ok (.iaload, 1) := by decide +kernel
theorem d17_7 : decode prog_3_method_12_code 7 = .ok (.invokevirtual 84, 3) := by decide +kernel
theorem d17_10 : decode prog_3_method_12_code 10 = .ok (.ifCond .lt 7, 3) := by decide +kernel
theorem d17_13 : decode prog_3_method_12_code 13 = .ok (.iconst 1, 1) := by decide +kernel
theorem d17_14 : decode prog_3_method_12_code 14 = .ok (.goto 4, 3) := by decide +kernel
theorem d17_17 : decode prog_3_method_12_code 17 = .ok (.iconst 0, 1) := by decide +kernel
theorem d17_18 : decode prog_3_method_12_code 18 = .ok (.ireturn, 1) := by decide +kernel
theorem b17_0 {d : Nat} {S : mm_S} {a0 : Nat} {x1 : Int32} (h0 : mm_obj S a0 1 = true) (h1 : (mm_R S a0 1).isSome = true) (h2 : mm_inb x1 (mm_N S (mm_rg S a0 1)) = true) (h3 : mm_arr S (mm_rg S a0 1) 13 = true) (h4 : mm_rk S a0 = 1) : mm_ex (d + 1) 17 0 [.ref a0, .int x1] [] S =
    mm_bd (mm_cl d 12 [.ref a0, .int (mm_M S (mm_rg S a0 1) (x1).toNatClampNeg)] S) (fun v S2 => mm_ex (d + 1) 17 10 [.ref a0, .int x1] (v.toList ++ []) S2) :=
  Eq.trans (mx_aload_n t17 d17_0 (x := a0) rfl) <|
  Eq.trans (mx_aload_n t17 d17_1 (x := a0) rfl) <|
  Eq.trans (mx_getR t17 d17_2 rfl fl1_17 h0 h1) <|
  Eq.trans (mx_iload_n t17 d17_5 (x := x1) rfl) <|
  Eq.trans (mx_iald t17 d17_6 h3 h2) <|
  (mx_virt (st := []) (k := 1) t17 [.int (mm_M S (mm_rg S a0 1) (x1).toNatClampNeg)] d17_7 vt1_84 rfl rfl (Nat.le_of_ble_eq_true rfl) (Nat.le_of_ble_eq_true rfl) h4)
theorem b17_10 {d : Nat} {S : mm_S} {a0 : Nat} {x1 : Int32} {p0 : Int32} : mm_ex d 17 10 [.ref a0, .int x1] [.int p0] S =
    if p0 < nI 0 then mm_ex d 17 17 [.ref a0, .int x1] [] S else mm_ex d 17 13 [.ref a0, .int x1] [] S :=
  (mx_ilt t17 d17_10 (tgt := 17) (by decide))
theorem b17_13 {d : Nat} {S : mm_S} {a0 : Nat} {x1 : Int32} : mm_ex d 17 13 [.ref a0, .int x1] [] S =
    some (some (.int (nI 1)), S) :=
  Eq.trans (mx_iconst t17 d17_13 (v := nI 1) rfl) <|
  Eq.trans (mx_goto t17 d17_14 (tgt := 18) (by decide)) <|
  (mx_iret t17 d17_18 (ty := .boolean) rfl rfl (fun h => nomatch h))
theorem b17_17 {d : Nat} {S : mm_S} {a0 : Nat} {x1 : Int32} : mm_ex d 17 17 [.ref a0, .int x1] [] S =
    some (some (.int (nI 0)), S) :=
  Eq.trans (mx_iconst t17 d17_17 (v := nI 0) rfl) <|
  (mx_iret t17 d17_18 (ty := .boolean) rfl rfl (fun h => nomatch h))
theorem e17 {d : Nat} {S : mm_S} {a0 : Nat} {x1 : Int32} : mm_cl d 17 [.ref a0, .int x1] S = mm_ex d 17 0 [.ref a0, .int x1] [] S := mm_cl_eq t17 (Nat.le_of_ble_eq_true rfl) rfl
/-! X1_gainOfYes -/
theorem d18_0 : decode prog_3_method_13_code 0 = .ok (.aload_n 0, 1) := by decide +kernel
theorem d18_1 : decode prog_3_method_13_code 1 = .ok (.getfield 94, 3) := by decide +kernel
theorem d18_4 : decode prog_3_method_13_code 4 = .ok (.aload_n 0, 1) := by decide +kernel
theorem d18_5 : decode prog_3_method_13_code 5 = .ok (.getfield 97, 3) := by decide +kernel
theorem d18_8 : decode prog_3_method_13_code 8 = .ok (.iadd, 1) := by decide +kernel
theorem d18_9 : decode prog_3_method_13_code 9 = .ok (.aload_n 0, 1) := by decide +kernel
theorem d18_10 : decode prog_3_method_13_code 10 = .ok (.getfield 55, 3) := by decide +kernel
theorem d18_13 : decode prog_3_method_13_code 13 = .ok (.iadd, 1) := by decide +kernel
theorem d18_14 : decode prog_3_method_13_code 14 = .ok (.aload_n 0, 1) := by decide +kernel
theorem d18_15 : decode prog_3_method_13_code 15 = .ok (.getfield 41, 3) := by decide +kernel
theorem d18_18 : decode prog_3_method_13_code 18 = .ok (.isub, 1) := by decide +kernel
theorem d18_19 : decode prog_3_method_13_code 19 = .ok (.ireturn, 1) := by decide +kernel
theorem b18_0 {d : Nat} {S : mm_S} {a0 : Nat} (h0 : mm_obj S a0 1 = true) : mm_ex d 18 0 [.ref a0] [] S =
    some (some (.int ((((mm_M S a0 18) + (mm_M S a0 19)) + (mm_M S a0 9)) - (mm_M S a0 12))), S) :=
  Eq.trans (mx_aload_n t18 d18_0 (x := a0) rfl) <|
  Eq.trans (mx_geti t18 d18_1 rfl fl1_94 h0) <|
  Eq.trans (mx_aload_n t18 d18_4 (x := a0) rfl) <|
  Eq.trans (mx_geti t18 d18_5 rfl fl1_97 h0) <|
  Eq.trans (mx_iadd t18 d18_8) <|
  Eq.trans (mx_aload_n t18 d18_9 (x := a0) rfl) <|
  Eq.trans (mx_geti t18 d18_10 rfl fl1_55 h0) <|
  Eq.trans (mx_iadd t18 d18_13) <|
  Eq.trans (mx_aload_n t18 d18_14 (x := a0) rfl) <|
  Eq.trans (mx_geti t18 d18_15 rfl fl1_41 h0) <|
  Eq.trans (mx_isub t18 d18_18) <|
  (mx_iret t18 d18_19 (ty := .int) rfl rfl (fun h => nomatch h))
theorem e18 {d : Nat} {S : mm_S} {a0 : Nat} : mm_cl d 18 [.ref a0] S = mm_ex d 18 0 [.ref a0] [] S := mm_cl_eq t18 (Nat.le_of_ble_eq_true rfl) rfl
/-! X1_weigh -/
theorem dd19_0 : (decode prog_3_method_14_code 0 = .ok (.aload_n 0, 1)) ∧ (decode prog_3_method_14_code 1 = .ok (.getfield 38, 3)) ∧ (decode prog_3_method_14_code 4 = .ok (.iconst 0, 1)) ∧ (decode prog_3_method_14_code 5 = .ok (.iload_n 1, 1)) ∧ (decode prog_3_method_14_code 6 = .ok (.iastore, 1)) ∧ (decode prog_3_method_14_code 7 = .ok (.aload_n 0, 1)) ∧ (decode prog_3_method_14_code 8 = .ok (.getfield 38, 3)) ∧ (decode prog_3_method_14_code 11 = .ok (.iconst 1, 1)) ∧ (decode prog_3_method_14_code 12 = .ok (.aload_n 0, 1)) ∧ (decode prog_3_method_14_code 13 = .ok (.getfield 11, 3)) ∧ (decode prog_3_method_14_code 16 = .ok (.iload_n 1, 1)) ∧ (decode prog_3_method_14_code 17 = .ok (.aaload, 1)) ∧ (decode prog_3_method_14_code 18 = .ok (.getfield 100, 3)) ∧ (decode prog_3_method_14_code 21 = .ok (.iastore, 1)) ∧ (decode prog_3_method_14_code 22 = .ok (.aload_n 0, 1)) ∧ (decode prog_3_method_14_code 23 = .ok (.getfield 38, 3)) := by decide +kernel
theorem d19_0 : decode prog_3_method_14_code 0 = .ok (.aload_n 0, 1) := dd19_0.1
theorem d19_1 : decode prog_3_method_14_code 1 = .ok (.getfield 38, 3) := dd19_0.2.1
theorem d19_4 : decode prog_3_method_14_code 4 = .ok (.iconst 0, 1) := dd19_0.2.2.1
theorem d19_5 : decode prog_3_method_14_code 5 = .ok (.iload_n 1, 1) := dd19_0.2.2.2.1
theorem d19_6 : decode prog_3_method_14_code 6 = .ok (.iastore, 1) := dd19_0.2.2.2.2.1
theorem d19_7 : decode prog_3_method_14_code 7 = .ok (.aload_n 0, 1) := dd19_0.2.2.2.2.2.1
theorem d19_8 : decode prog_3_method_14_code 8 = .ok (.getfield 38, 3) := dd19_0.2.2.2.2.2.2.1
theorem d19_11 : decode prog_3_method_14_code 11 = .ok (.iconst 1, 1) := dd19_0.2.2.2.2.2.2.2.1
theorem d19_12 : decode prog_3_method_14_code 12 = .ok (.aload_n 0, 1) := dd19_0.2.2.2.2.2.2.2.2.1
theorem d19_13 : decode prog_3_method_14_code 13 = .ok (.getfield 11, 3) := dd19_0.2.2.2.2.2.2.2.2.2.1
theorem d19_16 : decode prog_3_method_14_code 16 = .ok (.iload_n 1, 1) := dd19_0.2.2.2.2.2.2.2.2.2.2.1
theorem d19_17 : decode prog_3_method_14_code 17 = .ok (.aaload, 1) := dd19_0.2.2.2.2.2.2.2.2.2.2.2.1
theorem d19_18 : decode prog_3_method_14_code 18 = .ok (.getfield 100, 3) := dd19_0.2.2.2.2.2.2.2.2.2.2.2.2.1
theorem d19_21 : decode prog_3_method_14_code 21 = .ok (.iastore, 1) := dd19_0.2.2.2.2.2.2.2.2.2.2.2.2.2.1
theorem d19_22 : decode prog_3_method_14_code 22 = .ok (.aload_n 0, 1) := dd19_0.2.2.2.2.2.2.2.2.2.2.2.2.2.2.1
theorem d19_23 : decode prog_3_method_14_code 23 = .ok (.getfield 38, 3) := dd19_0.2.2.2.2.2.2.2.2.2.2.2.2.2.2.2
theorem dd19_26 : (decode prog_3_method_14_code 26 = .ok (.iconst 2, 1)) ∧ (decode prog_3_method_14_code 27 = .ok (.aload_n 0, 1)) ∧ (decode prog_3_method_14_code 28 = .ok (.getfield 41, 3)) ∧ (decode prog_3_method_14_code 31 = .ok (.iastore, 1)) ∧ (decode prog_3_method_14_code 32 = .ok (.aload_n 0, 1)) ∧ (decode prog_3_method_14_code 33 = .ok (.getfield 38, 3)) ∧ (decode prog_3_method_14_code 36 = .ok (.iconst 3, 1)) ∧ (decode prog_3_method_14_code 37 = .ok (.aload_n 0, 1)) ∧ (decode prog_3_method_14_code 38 = .ok (.getfield 45, 3)) ∧ (decode prog_3_method_14_code 41 = .ok (.iastore, 1)) ∧ (decode prog_3_method_14_code 42 = .ok (.aload_n 0, 1)) ∧ (decode prog_3_method_14_code 43 = .ok (.getfield 38, 3)) ∧ (decode prog_3_method_14_code 46 = .ok (.iconst 4, 1)) ∧ (decode prog_3_method_14_code 47 = .ok (.aload_n 0, 1)) ∧ (decode prog_3_method_14_code 48 = .ok (.getfield 65, 3)) ∧ (decode prog_3_method_14_code 51 = .ok (.iastore, 1)) := by decide +kernel
theorem d19_26 : decode prog_3_method_14_code 26 = .ok (.iconst 2, 1) := dd19_26.1
theorem d19_27 : decode prog_3_method_14_code 27 = .ok (.aload_n 0, 1) := dd19_26.2.1
theorem d19_28 : decode prog_3_method_14_code 28 = .ok (.getfield 41, 3) := dd19_26.2.2.1
theorem d19_31 : decode prog_3_method_14_code 31 = .ok (.iastore, 1) := dd19_26.2.2.2.1
theorem d19_32 : decode prog_3_method_14_code 32 = .ok (.aload_n 0, 1) := dd19_26.2.2.2.2.1
theorem d19_33 : decode prog_3_method_14_code 33 = .ok (.getfield 38, 3) := dd19_26.2.2.2.2.2.1
theorem d19_36 : decode prog_3_method_14_code 36 = .ok (.iconst 3, 1) := dd19_26.2.2.2.2.2.2.1
theorem d19_37 : decode prog_3_method_14_code 37 = .ok (.aload_n 0, 1) := dd19_26.2.2.2.2.2.2.2.1
theorem d19_38 : decode prog_3_method_14_code 38 = .ok (.getfield 45, 3) := dd19_26.2.2.2.2.2.2.2.2.1
theorem d19_41 : decode prog_3_method_14_code 41 = .ok (.iastore, 1) := dd19_26.2.2.2.2.2.2.2.2.2.1
theorem d19_42 : decode prog_3_method_14_code 42 = .ok (.aload_n 0, 1) := dd19_26.2.2.2.2.2.2.2.2.2.2.1
theorem d19_43 : decode prog_3_method_14_code 43 = .ok (.getfield 38, 3) := dd19_26.2.2.2.2.2.2.2.2.2.2.2.1
theorem d19_46 : decode prog_3_method_14_code 46 = .ok (.iconst 4, 1) := dd19_26.2.2.2.2.2.2.2.2.2.2.2.2.1
theorem d19_47 : decode prog_3_method_14_code 47 = .ok (.aload_n 0, 1) := dd19_26.2.2.2.2.2.2.2.2.2.2.2.2.2.1
theorem d19_48 : decode prog_3_method_14_code 48 = .ok (.getfield 65, 3) := dd19_26.2.2.2.2.2.2.2.2.2.2.2.2.2.2.1
theorem d19_51 : decode prog_3_method_14_code 51 = .ok (.iastore, 1) := dd19_26.2.2.2.2.2.2.2.2.2.2.2.2.2.2.2
theorem dd19_52 : (decode prog_3_method_14_code 52 = .ok (.aload_n 0, 1)) ∧ (decode prog_3_method_14_code 53 = .ok (.getfield 38, 3)) ∧ (decode prog_3_method_14_code 56 = .ok (.iconst 5, 1)) ∧ (decode prog_3_method_14_code 57 = .ok (.aload_n 0, 1)) ∧ (decode prog_3_method_14_code 58 = .ok (.getfield 24, 3)) ∧ (decode prog_3_method_14_code 61 = .ok (.iload_n 1, 1)) ∧ (decode prog_3_method_14_code 62 = .ok (.iaload, 1)) ∧ (decode prog_3_method_14_code 63 = .ok (.iastore, 1)) ∧ (decode prog_3_method_14_code 64 = .ok (.aload_n 0, 1)) ∧ (decode prog_3_method_14_code 65 = .ok (.getfield 38, 3)) ∧ (decode prog_3_method_14_code 68 = .ok (.bipush 6, 2)) ∧ (decode prog_3_method_14_code 70 = .ok (.aload_n 0, 1)) ∧ (decode prog_3_method_14_code 71 = .ok (.iload_n 1, 1)) ∧ (decode prog_3_method_14_code 72 = .ok (.invokevirtual 103, 3)) ∧ (decode prog_3_method_14_code 75 = .ok (.ifCond .eq 7, 3)) ∧ (decode prog_3_method_14_code 78 = .ok (.iconst 1, 1)) := by decide +kernel
theorem d19_52 : decode prog_3_method_14_code 52 = .ok (.aload_n 0, 1) := dd19_52.1
theorem d19_53 : decode prog_3_method_14_code 53 = .ok (.getfield 38, 3) := dd19_52.2.1
theorem d19_56 : decode prog_3_method_14_code 56 = .ok (.iconst 5, 1) := dd19_52.2.2.1
theorem d19_57 : decode prog_3_method_14_code 57 = .ok (.aload_n 0, 1) := dd19_52.2.2.2.1
theorem d19_58 : decode prog_3_method_14_code 58 = .ok (.getfield 24, 3) := dd19_52.2.2.2.2.1
theorem d19_61 : decode prog_3_method_14_code 61 = .ok (.iload_n 1, 1) := dd19_52.2.2.2.2.2.1
theorem d19_62 : decode prog_3_method_14_code 62 = .ok (.iaload, 1) := dd19_52.2.2.2.2.2.2.1
theorem d19_63 : decode prog_3_method_14_code 63 = .ok (.iastore, 1) := dd19_52.2.2.2.2.2.2.2.1
theorem d19_64 : decode prog_3_method_14_code 64 = .ok (.aload_n 0, 1) := dd19_52.2.2.2.2.2.2.2.2.1
theorem d19_65 : decode prog_3_method_14_code 65 = .ok (.getfield 38, 3) := dd19_52.2.2.2.2.2.2.2.2.2.1
theorem d19_68 : decode prog_3_method_14_code 68 = .ok (.bipush 6, 2) := dd19_52.2.2.2.2.2.2.2.2.2.2.1
theorem d19_70 : decode prog_3_method_14_code 70 = .ok (.aload_n 0, 1) := dd19_52.2.2.2.2.2.2.2.2.2.2.2.1
theorem d19_71 : decode prog_3_method_14_code 71 = .ok (.iload_n 1, 1) := dd19_52.2.2.2.2.2.2.2.2.2.2.2.2.1
theorem d19_72 : decode prog_3_method_14_code 72 = .ok (.invokevirtual 103, 3) := dd19_52.2.2.2.2.2.2.2.2.2.2.2.2.2.1
theorem d19_75 : decode prog_3_method_14_code 75 = .ok (.ifCond .eq 7, 3) := dd19_52.2.2.2.2.2.2.2.2.2.2.2.2.2.2.1
theorem d19_78 : decode prog_3_method_14_code 78 = .ok (.iconst 1, 1) := dd19_52.2.2.2.2.2.2.2.2.2.2.2.2.2.2.2
theorem dd19_79 : (decode prog_3_method_14_code 79 = .ok (.goto 4, 3)) ∧ (decode prog_3_method_14_code 82 = .ok (.iconst 0, 1)) ∧ (decode prog_3_method_14_code 83 = .ok (.iastore, 1)) ∧ (decode prog_3_method_14_code 84 = .ok (.aload_n 0, 1)) ∧ (decode prog_3_method_14_code 85 = .ok (.aload_n 0, 1)) ∧ (decode prog_3_method_14_code 86 = .ok (.getfield 11, 3)) ∧ (decode prog_3_method_14_code 89 = .ok (.iload_n 1, 1)) ∧ (decode prog_3_method_14_code 90 = .ok (.aaload, 1)) ∧ (decode prog_3_method_14_code 91 = .ok (.getfield 107, 3)) ∧ (decode prog_3_method_14_code 94 = .ok (.aload_n 0, 1)) ∧ (decode prog_3_method_14_code 95 = .ok (.getfield 48, 3)) ∧ (decode prog_3_method_14_code 98 = .ok (.iconst 0, 1)) ∧ (decode prog_3_method_14_code 99 = .ok (.aload_n 0, 1)) ∧ (decode prog_3_method_14_code 100 = .ok (.getfield 38, 3)) ∧ (decode prog_3_method_14_code 103 = .ok (.invokevirtual 110, 3)) ∧ (decode prog_3_method_14_code 106 = .ok (.iadd, 1)) := by decide +kernel
theorem d19_79 : decode prog_3_method_14_code 79 = .ok (.goto 4, 3) := dd19_79.1
theorem d19_82 : decode prog_3_method_14_code 82 = .ok (.iconst 0, 1) := dd19_79.2.1
theorem d19_83 : decode prog_3_method_14_code 83 = .ok (.iastore, 1) := dd19_79.2.2.1
theorem d19_84 : decode prog_3_method_14_code 84 = .ok (.aload_n 0, 1) := dd19_79.2.2.2.1
theorem d19_85 : decode prog_3_method_14_code 85 = .ok (.aload_n 0, 1) := dd19_79.2.2.2.2.1
theorem d19_86 : decode prog_3_method_14_code 86 = .ok (.getfield 11, 3) := dd19_79.2.2.2.2.2.1
theorem d19_89 : decode prog_3_method_14_code 89 = .ok (.iload_n 1, 1) := dd19_79.2.2.2.2.2.2.1
theorem d19_90 : decode prog_3_method_14_code 90 = .ok (.aaload, 1) := dd19_79.2.2.2.2.2.2.2.1
theorem d19_91 : decode prog_3_method_14_code 91 = .ok (.getfield 107, 3) := dd19_79.2.2.2.2.2.2.2.2.1
theorem d19_94 : decode prog_3_method_14_code 94 = .ok (.aload_n 0, 1) := dd19_79.2.2.2.2.2.2.2.2.2.1
theorem d19_95 : decode prog_3_method_14_code 95 = .ok (.getfield 48, 3) := dd19_79.2.2.2.2.2.2.2.2.2.2.1
theorem d19_98 : decode prog_3_method_14_code 98 = .ok (.iconst 0, 1) := dd19_79.2.2.2.2.2.2.2.2.2.2.2.1
theorem d19_99 : decode prog_3_method_14_code 99 = .ok (.aload_n 0, 1) := dd19_79.2.2.2.2.2.2.2.2.2.2.2.2.1
theorem d19_100 : decode prog_3_method_14_code 100 = .ok (.getfield 38, 3) := dd19_79.2.2.2.2.2.2.2.2.2.2.2.2.2.1
theorem d19_103 : decode prog_3_method_14_code 103 = .ok (.invokevirtual 110, 3) := dd19_79.2.2.2.2.2.2.2.2.2.2.2.2.2.2.1
theorem d19_106 : decode prog_3_method_14_code 106 = .ok (.iadd, 1) := dd19_79.2.2.2.2.2.2.2.2.2.2.2.2.2.2.2
theorem dd19_107 : (decode prog_3_method_14_code 107 = .ok (.putfield 94, 3)) ∧ (decode prog_3_method_14_code 110 = .ok (.aload_n 0, 1)) ∧ (decode prog_3_method_14_code 111 = .ok (.aload_n 0, 1)) ∧ (decode prog_3_method_14_code 112 = .ok (.getfield 48, 3)) ∧ (decode prog_3_method_14_code 115 = .ok (.iconst 1, 1)) ∧ (decode prog_3_method_14_code 116 = .ok (.aload_n 0, 1)) ∧ (decode prog_3_method_14_code 117 = .ok (.getfield 38, 3)) ∧ (decode prog_3_method_14_code 120 = .ok (.invokevirtual 110, 3)) ∧ (decode prog_3_method_14_code 123 = .ok (.putfield 97, 3)) ∧ (decode prog_3_method_14_code 126 = .ok (.return_, 1)) := by decide +kernel
theorem d19_107 : decode prog_3_method_14_code 107 = .ok (.putfield 94, 3) := dd19_107.1
theorem d19_110 : decode prog_3_method_14_code 110 = .ok (.aload_n 0, 1) := dd19_107.2.1
theorem d19_111 : decode prog_3_method_14_code 111 = .ok (.aload_n 0, 1) := dd19_107.2.2.1
theorem d19_112 : decode prog_3_method_14_code 112 = .ok (.getfield 48, 3) := dd19_107.2.2.2.1
theorem d19_115 : decode prog_3_method_14_code 115 = .ok (.iconst 1, 1) := dd19_107.2.2.2.2.1
theorem d19_116 : decode prog_3_method_14_code 116 = .ok (.aload_n 0, 1) := dd19_107.2.2.2.2.2.1
theorem d19_117 : decode prog_3_method_14_code 117 = .ok (.getfield 38, 3) := dd19_107.2.2.2.2.2.2.1
theorem d19_120 : decode prog_3_method_14_code 120 = .ok (.invokevirtual 110, 3) := dd19_107.2.2.2.2.2.2.2.1
theorem d19_123 : decode prog_3_method_14_code 123 = .ok (.putfield 97, 3) := dd19_107.2.2.2.2.2.2.2.2.1
theorem d19_126 : decode prog_3_method_14_code 126 = .ok (.return_, 1) := dd19_107.2.2.2.2.2.2.2.2.2
theorem b19_0 {d : Nat} {S : mm_S} {a0 : Nat} {x1 : Int32} (h0 : mm_obj S a0 1 = true) (h1 : (mm_R S a0 7).isSome = true) (h2 : mm_arr S (mm_rg S a0 7) 13 = true) (h3 : mm_inb (nI 0) (mm_N S (mm_rg S a0 7)) = true) (h4 : (mm_R S a0 0).isSome = true) (h5 : mm_inb x1 (mm_N S (mm_rg S a0 0)) = true) (h6 : (mm_arr S (mm_rg S a0 0) 16 || mm_arr S (mm_rg S a0 0) 17 || mm_arr S (mm_rg S a0 0) 18) = true) (h7 : (mm_R S (mm_rg S a0 0) (x1).toNatClampNeg).isSome = true) : mm_ex d 19 0 [.ref a0, .int x1] [] S =
    mm_ex d 19 18 [.ref a0, .int x1] [.ref (mm_rg S (mm_rg S a0 0) (x1).toNatClampNeg), .int (nI 1), .ref (mm_rg S a0 7)] (mm_uM S (mm_rg S a0 7) (nI 0).toNatClampNeg x1) :=
  Eq.trans (mx_aload_n t19 d19_0 (x := a0) rfl) <|
  Eq.trans (mx_getR t19 d19_1 rfl fl1_38 h0 h1) <|
  Eq.trans (mx_iconst t19 d19_4 (v := nI 0) rfl) <|
  Eq.trans (mx_iload_n t19 d19_5 (x := x1) rfl) <|
  Eq.trans (mx_iast2 t19 d19_6 h2 h3) <|
  Eq.trans (mx_aload_n t19 d19_7 (x := a0) rfl) <|
  Eq.trans (mx_getR t19 d19_8 rfl fl1_38 h0 h1) <|
  Eq.trans (mx_iconst t19 d19_11 (v := nI 1) rfl) <|
  Eq.trans (mx_aload_n t19 d19_12 (x := a0) rfl) <|
  Eq.trans (mx_getR t19 d19_13 rfl fl1_11 h0 h4) <|
  Eq.trans (mx_iload_n t19 d19_16 (x := x1) rfl) <|
  (mx_qaldR t19 d19_17 h6 h5 h7)
theorem b19_18 {d : Nat} {S : mm_S} {a0 : Nat} {x1 : Int32} {p0 : Nat} {p1 : Int32} {p2 : Nat} (h0 : mm_obj S p0 0 = true) (h1 : mm_arr S p2 13 = true) (h2 : mm_inb p1 (mm_N S p2) = true) (h3 : mm_obj S a0 1 = true) (h4 : (mm_R S a0 7).isSome = true) : mm_ex d 19 18 [.ref a0, .int x1] [.ref p0, .int p1, .ref p2] S =
    mm_ex d 19 28 [.ref a0, .int x1] [.ref a0, .int (nI 2), .ref (mm_rg S a0 7)] (mm_uM S p2 (p1).toNatClampNeg (mm_M S p0 0)) :=
  Eq.trans (mx_geti t19 d19_18 rfl fl1_100 h0) <|
  Eq.trans (mx_iast2 t19 d19_21 h1 h2) <|
  Eq.trans (mx_aload_n t19 d19_22 (x := a0) rfl) <|
  Eq.trans (mx_getR t19 d19_23 rfl fl1_38 h3 h4) <|
  Eq.trans (mx_iconst t19 d19_26 (v := nI 2) rfl) <|
  (mx_aload_n t19 d19_27 (x := a0) rfl)
theorem b19_28 {d : Nat} {S : mm_S} {a0 : Nat} {x1 : Int32} {p0 : Nat} {p1 : Int32} {p2 : Nat} (h0 : mm_obj S p0 1 = true) (h1 : mm_arr S p2 13 = true) (h2 : mm_inb p1 (mm_N S p2) = true) (h3 : mm_obj S a0 1 = true) (h4 : (mm_R S a0 7).isSome = true) : mm_ex d 19 28 [.ref a0, .int x1] [.ref p0, .int p1, .ref p2] S =
    mm_ex d 19 38 [.ref a0, .int x1] [.ref a0, .int (nI 3), .ref (mm_rg S a0 7)] (mm_uM S p2 (p1).toNatClampNeg (mm_M S p0 12)) :=
  Eq.trans (mx_geti t19 d19_28 rfl fl1_41 h0) <|
  Eq.trans (mx_iast2 t19 d19_31 h1 h2) <|
  Eq.trans (mx_aload_n t19 d19_32 (x := a0) rfl) <|
  Eq.trans (mx_getR t19 d19_33 rfl fl1_38 h3 h4) <|
  Eq.trans (mx_iconst t19 d19_36 (v := nI 3) rfl) <|
  (mx_aload_n t19 d19_37 (x := a0) rfl)
theorem b19_38 {d : Nat} {S : mm_S} {a0 : Nat} {x1 : Int32} {p0 : Nat} {p1 : Int32} {p2 : Nat} (h0 : mm_obj S p0 1 = true) (h1 : mm_arr S p2 13 = true) (h2 : mm_inb p1 (mm_N S p2) = true) (h3 : mm_obj S a0 1 = true) (h4 : (mm_R S a0 7).isSome = true) : mm_ex d 19 38 [.ref a0, .int x1] [.ref p0, .int p1, .ref p2] S =
    mm_ex d 19 48 [.ref a0, .int x1] [.ref a0, .int (nI 4), .ref (mm_rg S a0 7)] (mm_uM S p2 (p1).toNatClampNeg (mm_M S p0 13)) :=
  Eq.trans (mx_geti t19 d19_38 rfl fl1_45 h0) <|
  Eq.trans (mx_iast2 t19 d19_41 h1 h2) <|
  Eq.trans (mx_aload_n t19 d19_42 (x := a0) rfl) <|
  Eq.trans (mx_getR t19 d19_43 rfl fl1_38 h3 h4) <|
  Eq.trans (mx_iconst t19 d19_46 (v := nI 4) rfl) <|
  (mx_aload_n t19 d19_47 (x := a0) rfl)
theorem b19_48 {d : Nat} {S : mm_S} {a0 : Nat} {x1 : Int32} {p0 : Nat} {p1 : Int32} {p2 : Nat} (h0 : mm_obj S p0 1 = true) (h1 : mm_arr S p2 13 = true) (h2 : mm_inb p1 (mm_N S p2) = true) (h3 : mm_obj S a0 1 = true) (h4 : (mm_R S a0 7).isSome = true) (h5 : (mm_R S a0 3).isSome = true) : mm_ex d 19 48 [.ref a0, .int x1] [.ref p0, .int p1, .ref p2] S =
    mm_ex d 19 62 [.ref a0, .int x1] [.int x1, .ref (mm_rg S a0 3), .int (nI 5), .ref (mm_rg S a0 7)] (mm_uM S p2 (p1).toNatClampNeg (mm_M S p0 11)) :=
  Eq.trans (mx_geti t19 d19_48 rfl fl1_65 h0) <|
  Eq.trans (mx_iast2 t19 d19_51 h1 h2) <|
  Eq.trans (mx_aload_n t19 d19_52 (x := a0) rfl) <|
  Eq.trans (mx_getR t19 d19_53 rfl fl1_38 h3 h4) <|
  Eq.trans (mx_iconst t19 d19_56 (v := nI 5) rfl) <|
  Eq.trans (mx_aload_n t19 d19_57 (x := a0) rfl) <|
  Eq.trans (mx_getR t19 d19_58 rfl fl1_24 h3 h5) <|
  (mx_iload_n t19 d19_61 (x := x1) rfl)
theorem b19_62 {d : Nat} {S : mm_S} {a0 : Nat} {x1 : Int32} {p0 : Int32} {p1 : Nat} {p2 : Int32} {p3 : Nat} (h0 : mm_inb p0 (mm_N S p1) = true) (h1 : mm_arr S p1 13 = true) (h2 : mm_arr S p3 13 = true) (h3 : mm_inb p2 (mm_N S p3) = true) (h4 : mm_obj S a0 1 = true) (h5 : (mm_R S a0 7).isSome = true) (h6 : mm_rk S a0 = 1) : mm_ex (d + 1) 19 62 [.ref a0, .int x1] [.int p0, .ref p1, .int p2, .ref p3] S =
    mm_bd (mm_cl d 17 [.ref a0, .int x1] (mm_uM S p3 (p2).toNatClampNeg (mm_M S p1 (p0).toNatClampNeg))) (fun v S2 => mm_ex (d + 1) 19 75 [.ref a0, .int x1] (v.toList ++ [.int (nI 6), .ref (mm_rg S a0 7)]) S2) :=
  Eq.trans (mx_iald t19 d19_62 h1 h0) <|
  Eq.trans (mx_iast2 t19 d19_63 h2 h3) <|
  Eq.trans (mx_aload_n t19 d19_64 (x := a0) rfl) <|
  Eq.trans (mx_getR t19 d19_65 rfl fl1_38 h4 h5) <|
  Eq.trans (mx_bipush t19 d19_68 (v := nI 6) rfl) <|
  Eq.trans (mx_aload_n t19 d19_70 (x := a0) rfl) <|
  Eq.trans (mx_iload_n t19 d19_71 (x := x1) rfl) <|
  (mx_virt (st := [.int (nI 6), .ref (mm_rg S a0 7)]) (k := 1) t19 [.int x1] d19_72 vt1_103 rfl rfl (Nat.le_of_ble_eq_true rfl) (Nat.le_of_ble_eq_true rfl) h6)
theorem b19_75 {d : Nat} {S : mm_S} {a0 : Nat} {x1 : Int32} {p0 : Int32} {p1 : Int32} {p2 : Nat} : mm_ex d 19 75 [.ref a0, .int x1] [.int p0, .int p1, .ref p2] S =
    if p0 = nI 0 then mm_ex d 19 82 [.ref a0, .int x1] [.int p1, .ref p2] S else mm_ex d 19 78 [.ref a0, .int x1] [.int p1, .ref p2] S :=
  (mx_ieq t19 d19_75 (tgt := 82) (by decide))
theorem b19_78 {d : Nat} {S : mm_S} {a0 : Nat} {x1 : Int32} {p0 : Int32} {p1 : Nat} (h0 : mm_arr S p1 13 = true) (h1 : mm_inb p0 (mm_N S p1) = true) (h2 : mm_obj S a0 1 = true) (h3 : (mm_R S a0 0).isSome = true) (h4 : mm_inb x1 (mm_N S (mm_rg S a0 0)) = true) (h5 : (mm_arr S (mm_rg S a0 0) 16 || mm_arr S (mm_rg S a0 0) 17 || mm_arr S (mm_rg S a0 0) 18) = true) (h6 : (mm_R S (mm_rg S a0 0) (x1).toNatClampNeg).isSome = true) : mm_ex d 19 78 [.ref a0, .int x1] [.int p0, .ref p1] S =
    mm_ex d 19 91 [.ref a0, .int x1] [.ref (mm_rg S (mm_rg S a0 0) (x1).toNatClampNeg), .ref a0] (mm_uM S p1 (p0).toNatClampNeg (nI 1)) :=
  Eq.trans (mx_iconst t19 d19_78 (v := nI 1) rfl) <|
  Eq.trans (mx_goto t19 d19_79 (tgt := 83) (by decide)) <|
  Eq.trans (mx_iast2 t19 d19_83 h0 h1) <|
  Eq.trans (mx_aload_n t19 d19_84 (x := a0) rfl) <|
  Eq.trans (mx_aload_n t19 d19_85 (x := a0) rfl) <|
  Eq.trans (mx_getR t19 d19_86 rfl fl1_11 h2 h3) <|
  Eq.trans (mx_iload_n t19 d19_89 (x := x1) rfl) <|
  (mx_qaldR t19 d19_90 h5 h4 h6)
theorem b19_82 {d : Nat} {S : mm_S} {a0 : Nat} {x1 : Int32} {p0 : Int32} {p1 : Nat} (h0 : mm_arr S p1 13 = true) (h1 : mm_inb p0 (mm_N S p1) = true) (h2 : mm_obj S a0 1 = true) (h3 : (mm_R S a0 0).isSome = true) (h4 : mm_inb x1 (mm_N S (mm_rg S a0 0)) = true) (h5 : (mm_arr S (mm_rg S a0 0) 16 || mm_arr S (mm_rg S a0 0) 17 || mm_arr S (mm_rg S a0 0) 18) = true) (h6 : (mm_R S (mm_rg S a0 0) (x1).toNatClampNeg).isSome = true) : mm_ex d 19 82 [.ref a0, .int x1] [.int p0, .ref p1] S =
    mm_ex d 19 91 [.ref a0, .int x1] [.ref (mm_rg S (mm_rg S a0 0) (x1).toNatClampNeg), .ref a0] (mm_uM S p1 (p0).toNatClampNeg (nI 0)) :=
  Eq.trans (mx_iconst t19 d19_82 (v := nI 0) rfl) <|
  Eq.trans (mx_iast2 t19 d19_83 h0 h1) <|
  Eq.trans (mx_aload_n t19 d19_84 (x := a0) rfl) <|
  Eq.trans (mx_aload_n t19 d19_85 (x := a0) rfl) <|
  Eq.trans (mx_getR t19 d19_86 rfl fl1_11 h2 h3) <|
  Eq.trans (mx_iload_n t19 d19_89 (x := x1) rfl) <|
  (mx_qaldR t19 d19_90 h5 h4 h6)
theorem b19_91 {d : Nat} {S : mm_S} {a0 : Nat} {x1 : Int32} {p0 : Nat} {p1 : Nat} (h0 : mm_obj S p0 0 = true) (h1 : mm_obj S a0 1 = true) (h2 : (mm_R S a0 8).isSome = true) (h3 : (mm_R S a0 7).isSome = true) (h4 : mm_rk S (mm_rg S a0 8) = 6) : mm_ex (d + 1) 19 91 [.ref a0, .int x1] [.ref p0, .ref p1] S =
    mm_bd (mm_cl d 52 [.ref (mm_rg S a0 8), .int (nI 0), .ref (mm_rg S a0 7)] S) (fun v S2 => mm_ex (d + 1) 19 106 [.ref a0, .int x1] (v.toList ++ [.int (mm_M S p0 3), .ref p1]) S2) :=
  Eq.trans (mx_geti t19 d19_91 rfl fl1_107 h0) <|
  Eq.trans (mx_aload_n t19 d19_94 (x := a0) rfl) <|
  Eq.trans (mx_getR t19 d19_95 rfl fl1_48 h1 h2) <|
  Eq.trans (mx_iconst t19 d19_98 (v := nI 0) rfl) <|
  Eq.trans (mx_aload_n t19 d19_99 (x := a0) rfl) <|
  Eq.trans (mx_getR t19 d19_100 rfl fl1_38 h1 h3) <|
  (mx_virt (st := [.int (mm_M S p0 3), .ref p1]) (k := 6) t19 [.int (nI 0), .ref (mm_rg S a0 7)] d19_103 vt1_110 rfl rfl (Nat.le_of_ble_eq_true rfl) (Nat.le_of_ble_eq_true rfl) h4)
theorem b19_106 {d : Nat} {S : mm_S} {a0 : Nat} {x1 : Int32} {p0 : Int32} {p1 : Int32} {p2 : Nat} (h0 : mm_obj S p2 1 = true) (h1 : mm_obj S a0 1 = true) (h2 : (mm_R S a0 8).isSome = true) (h3 : (mm_R S a0 7).isSome = true) (h4 : mm_rk S (mm_rg S a0 8) = 6) : mm_ex (d + 1) 19 106 [.ref a0, .int x1] [.int p0, .int p1, .ref p2] S =
    mm_bd (mm_cl d 52 [.ref (mm_rg S a0 8), .int (nI 1), .ref (mm_rg S a0 7)] (mm_uM S p2 18 (p1 + p0))) (fun v S2 => mm_ex (d + 1) 19 123 [.ref a0, .int x1] (v.toList ++ [.ref a0]) S2) :=
  Eq.trans (mx_iadd t19 d19_106) <|
  Eq.trans (mx_puti2 t19 d19_107 fl1_94 rfl h0) <|
  Eq.trans (mx_aload_n t19 d19_110 (x := a0) rfl) <|
  Eq.trans (mx_aload_n t19 d19_111 (x := a0) rfl) <|
  Eq.trans (mx_getR t19 d19_112 rfl fl1_48 h1 h2) <|
  Eq.trans (mx_iconst t19 d19_115 (v := nI 1) rfl) <|
  Eq.trans (mx_aload_n t19 d19_116 (x := a0) rfl) <|
  Eq.trans (mx_getR t19 d19_117 rfl fl1_38 h1 h3) <|
  (mx_virt (st := [.ref a0]) (k := 6) t19 [.int (nI 1), .ref (mm_rg S a0 7)] d19_120 vt1_110 rfl rfl (Nat.le_of_ble_eq_true rfl) (Nat.le_of_ble_eq_true rfl) h4)
theorem b19_123 {d : Nat} {S : mm_S} {a0 : Nat} {x1 : Int32} {p0 : Int32} {p1 : Nat} (h0 : mm_obj S p1 1 = true) : mm_ex d 19 123 [.ref a0, .int x1] [.int p0, .ref p1] S =
    some (none, (mm_uM S p1 19 p0)) :=
  Eq.trans (mx_puti2 t19 d19_123 fl1_97 rfl h0) <|
  (mx_vret t19 d19_126 rfl)
theorem e19 {d : Nat} {S : mm_S} {a0 : Nat} {x1 : Int32} : mm_cl d 19 [.ref a0, .int x1] S = mm_ex d 19 0 [.ref a0, .int x1] [] S := mm_cl_eq t19 (Nat.le_of_ble_eq_true rfl) rfl
/-! X1_turnComes -/
theorem d20_0 : decode prog_3_method_15_code 0 = .ok (.aload_n 0, 1) := by decide +kernel
theorem d20_1 : decode prog_3_method_15_code 1 = .ok (.getfield 65, 3) := by decide +kernel
theorem d20_4 : decode prog_3_method_15_code 4 = .ok (.ifCond .le 14, 3) := by decide +kernel
theorem d20_7 : decode prog_3_method_15_code 7 = .ok (.aload_n 0, 1) := by decide +kernel
theorem d20_8 : decode prog_3_method_15_code 8 = .ok (.getfield 45, 3) := by decide +kernel
theorem d20_11 : decode prog_3_method_15_code 11 = .ok (.ifCond .le 7, 3) := by decide +kernel
theorem d20_14 : decode prog_3_method_15_code 14 = .ok (.iconst 1, 1) := by decide +kernel
theorem d20_15 : decode prog_3_method_15_code 15 = .ok (.goto 4, 3) := by decide +kernel
theorem d20_18 : decode prog_3_method_15_code 18 = .ok (.iconst 0, 1) := by decide +kernel
theorem d20_19 : decode prog_3_method_15_code 19 = .ok (.ireturn, 1) := by decide +kernel
theorem b20_0 {d : Nat} {S : mm_S} {a0 : Nat} (h0 : mm_obj S a0 1 = true) : mm_ex d 20 0 [.ref a0] [] S =
    if (mm_M S a0 11) ≤ nI 0 then mm_ex d 20 18 [.ref a0] [] S else mm_ex d 20 7 [.ref a0] [] S :=
  Eq.trans (mx_aload_n t20 d20_0 (x := a0) rfl) <|
  Eq.trans (mx_geti t20 d20_1 rfl fl1_65 h0) <|
  (mx_ile t20 d20_4 (tgt := 18) (by decide))
theorem b20_7 {d : Nat} {S : mm_S} {a0 : Nat} (h0 : mm_obj S a0 1 = true) : mm_ex d 20 7 [.ref a0] [] S =
    if (mm_M S a0 13) ≤ nI 0 then mm_ex d 20 18 [.ref a0] [] S else mm_ex d 20 14 [.ref a0] [] S :=
  Eq.trans (mx_aload_n t20 d20_7 (x := a0) rfl) <|
  Eq.trans (mx_geti t20 d20_8 rfl fl1_45 h0) <|
  (mx_ile t20 d20_11 (tgt := 18) (by decide))
theorem b20_14 {d : Nat} {S : mm_S} {a0 : Nat} : mm_ex d 20 14 [.ref a0] [] S =
    some (some (.int (nI 1)), S) :=
  Eq.trans (mx_iconst t20 d20_14 (v := nI 1) rfl) <|
  Eq.trans (mx_goto t20 d20_15 (tgt := 19) (by decide)) <|
  (mx_iret t20 d20_19 (ty := .boolean) rfl rfl (fun h => nomatch h))
theorem b20_18 {d : Nat} {S : mm_S} {a0 : Nat} : mm_ex d 20 18 [.ref a0] [] S =
    some (some (.int (nI 0)), S) :=
  Eq.trans (mx_iconst t20 d20_18 (v := nI 0) rfl) <|
  (mx_iret t20 d20_19 (ty := .boolean) rfl rfl (fun h => nomatch h))
theorem e20 {d : Nat} {S : mm_S} {a0 : Nat} : mm_cl d 20 [.ref a0] S = mm_ex d 20 0 [.ref a0] [] S := mm_cl_eq t20 (Nat.le_of_ble_eq_true rfl) rfl
/-! X1_turn -/
theorem d21_0 : decode prog_3_method_16_code 0 = .ok (.aload_n 0, 1) := by decide +kernel
theorem d21_1 : decode prog_3_method_16_code 1 = .ok (.getfield 30, 3) := by decide +kernel
theorem d21_4 : decode prog_3_method_16_code 4 = .ok (.iconst 0, 1) := by decide +kernel
theorem d21_5 : decode prog_3_method_16_code 5 = .ok (.iaload, 1) := by decide +kernel
theorem d21_6 : decode prog_3_method_16_code 6 = .ok (.istore_n 1, 1) := by decide +kernel
theorem d21_7 : decode prog_3_method_16_code 7 = .ok (.aload_n 0, 1) := by decide +kernel
theorem d21_8 : decode prog_3_method_16_code 8 = .ok (.iload_n 1, 1) := by decide +kernel
theorem d21_9 : decode prog_3_method_16_code 9 = .ok (.invokevirtual 114, 3) := by decide +kernel
theorem d21_12 : decode prog_3_method_16_code 12 = .ok (.aload_n 0, 1) := by decide +kernel
theorem d21_13 : decode prog_3_method_16_code 13 = .ok (.getfield 11, 3) := by decide +kernel
theorem d21_16 : decode prog_3_method_16_code 16 = .ok (.iload_n 1, 1) := by decide +kernel
theorem d21_17 : decode prog_3_method_16_code 17 = .ok (.aaload, 1) := by decide +kernel
theorem d21_18 : decode prog_3_method_16_code 18 = .ok (.aload_n 0, 1) := by decide +kernel
theorem d21_19 : decode prog_3_method_16_code 19 = .ok (.invokevirtual 117, 3) := by decide +kernel
theorem d21_22 : decode prog_3_method_16_code 22 = .ok (.istore_n 2, 1) := by decide +kernel
theorem d21_23 : decode prog_3_method_16_code 23 = .ok (.aload_n 0, 1) := by decide +kernel
theorem d21_24 : decode prog_3_method_16_code 24 = .ok (.iload_n 2, 1) := by decide +kernel
theorem d21_25 : decode prog_3_method_16_code 25 = .ok (.invokevirtual 121, 3) := by decide +kernel
theorem d21_28 : decode prog_3_method_16_code 28 = .ok (.iload_n 2, 1) := by decide +kernel
theorem d21_29 : decode prog_3_method_16_code 29 = .ok (.ireturn, 1) := by decide +kernel
theorem b21_0 {d : Nat} {S : mm_S} {a0 : Nat} (h0 : mm_obj S a0 1 = true) (h1 : (mm_R S a0 5).isSome = true) (h2 : mm_inb (nI 0) (mm_N S (mm_rg S a0 5)) = true) (h3 : mm_arr S (mm_rg S a0 5) 13 = true) (h4 : mm_rk S a0 = 1) : mm_ex (d + 1) 21 0 [.ref a0, .null, .null] [] S =
    mm_bd (mm_cl d 19 [.ref a0, .int (mm_M S (mm_rg S a0 5) (nI 0).toNatClampNeg)] S) (fun v S2 => mm_ex (d + 1) 21 12 [.ref a0, .int (mm_M S (mm_rg S a0 5) (nI 0).toNatClampNeg), .null] (v.toList ++ []) S2) :=
  Eq.trans (mx_aload_n t21 d21_0 (x := a0) rfl) <|
  Eq.trans (mx_getR t21 d21_1 rfl fl1_30 h0 h1) <|
  Eq.trans (mx_iconst t21 d21_4 (v := nI 0) rfl) <|
  Eq.trans (mx_iald t21 d21_5 h3 h2) <|
  Eq.trans (mx_istore_n t21 d21_6 (ls' := [.ref a0, .int (mm_M S (mm_rg S a0 5) (nI 0).toNatClampNeg), .null]) rfl rfl) <|
  Eq.trans (mx_aload_n t21 d21_7 (x := a0) rfl) <|
  Eq.trans (mx_iload_n t21 d21_8 (x := mm_M S (mm_rg S a0 5) (nI 0).toNatClampNeg) rfl) <|
  (mx_virt (st := []) (k := 1) t21 [.int (mm_M S (mm_rg S a0 5) (nI 0).toNatClampNeg)] d21_9 vt1_114 rfl rfl (Nat.le_of_ble_eq_true rfl) (Nat.le_of_ble_eq_true rfl) h4)
theorem b21_12_k0 {d : Nat} {S : mm_S} {a0 : Nat} {x1 : Int32} (h0 : mm_obj S a0 1 = true) (h1 : (mm_R S a0 0).isSome = true) (h2 : mm_inb x1 (mm_N S (mm_rg S a0 0)) = true) (h3 : (mm_arr S (mm_rg S a0 0) 16 || mm_arr S (mm_rg S a0 0) 17 || mm_arr S (mm_rg S a0 0) 18) = true) (h4 : (mm_R S (mm_rg S a0 0) (x1).toNatClampNeg).isSome = true) (h5 : mm_rk S (mm_rg S (mm_rg S a0 0) (x1).toNatClampNeg) = 0) : mm_ex (d + 1) 21 12 [.ref a0, .int x1, .null] [] S =
    mm_bd (mm_cl d 2 [.ref (mm_rg S (mm_rg S a0 0) (x1).toNatClampNeg), .ref a0] S) (fun v S2 => mm_ex (d + 1) 21 22 [.ref a0, .int x1, .null] (v.toList ++ []) S2) :=
  Eq.trans (mx_aload_n t21 d21_12 (x := a0) rfl) <|
  Eq.trans (mx_getR t21 d21_13 rfl fl1_11 h0 h1) <|
  Eq.trans (mx_iload_n t21 d21_16 (x := x1) rfl) <|
  Eq.trans (mx_qaldR t21 d21_17 h3 h2 h4) <|
  Eq.trans (mx_aload_n t21 d21_18 (x := a0) rfl) <|
  (mx_virt (st := []) (k := 0) t21 [.ref a0] d21_19 vt1_117 rfl rfl (Nat.le_of_ble_eq_true rfl) (Nat.le_of_ble_eq_true rfl) h5)
theorem b21_12_k2 {d : Nat} {S : mm_S} {a0 : Nat} {x1 : Int32} (h0 : mm_obj S a0 1 = true) (h1 : (mm_R S a0 0).isSome = true) (h2 : mm_inb x1 (mm_N S (mm_rg S a0 0)) = true) (h3 : (mm_arr S (mm_rg S a0 0) 16 || mm_arr S (mm_rg S a0 0) 17 || mm_arr S (mm_rg S a0 0) 18) = true) (h4 : (mm_R S (mm_rg S a0 0) (x1).toNatClampNeg).isSome = true) (h5 : mm_rk S (mm_rg S (mm_rg S a0 0) (x1).toNatClampNeg) = 2) : mm_ex (d + 1) 21 12 [.ref a0, .int x1, .null] [] S =
    mm_bd (mm_cl d 26 [.ref (mm_rg S (mm_rg S a0 0) (x1).toNatClampNeg), .ref a0] S) (fun v S2 => mm_ex (d + 1) 21 22 [.ref a0, .int x1, .null] (v.toList ++ []) S2) :=
  Eq.trans (mx_aload_n t21 d21_12 (x := a0) rfl) <|
  Eq.trans (mx_getR t21 d21_13 rfl fl1_11 h0 h1) <|
  Eq.trans (mx_iload_n t21 d21_16 (x := x1) rfl) <|
  Eq.trans (mx_qaldR t21 d21_17 h3 h2 h4) <|
  Eq.trans (mx_aload_n t21 d21_18 (x := a0) rfl) <|
  (mx_virt (st := []) (k := 2) t21 [.ref a0] d21_19 vt1_117 rfl rfl (Nat.le_of_ble_eq_true rfl) (Nat.le_of_ble_eq_true rfl) h5)
theorem b21_12_k3 {d : Nat} {S : mm_S} {a0 : Nat} {x1 : Int32} (h0 : mm_obj S a0 1 = true) (h1 : (mm_R S a0 0).isSome = true) (h2 : mm_inb x1 (mm_N S (mm_rg S a0 0)) = true) (h3 : (mm_arr S (mm_rg S a0 0) 16 || mm_arr S (mm_rg S a0 0) 17 || mm_arr S (mm_rg S a0 0) 18) = true) (h4 : (mm_R S (mm_rg S a0 0) (x1).toNatClampNeg).isSome = true) (h5 : mm_rk S (mm_rg S (mm_rg S a0 0) (x1).toNatClampNeg) = 3) : mm_ex (d + 1) 21 12 [.ref a0, .int x1, .null] [] S =
    mm_bd (mm_cl d 29 [.ref (mm_rg S (mm_rg S a0 0) (x1).toNatClampNeg), .ref a0] S) (fun v S2 => mm_ex (d + 1) 21 22 [.ref a0, .int x1, .null] (v.toList ++ []) S2) :=
  Eq.trans (mx_aload_n t21 d21_12 (x := a0) rfl) <|
  Eq.trans (mx_getR t21 d21_13 rfl fl1_11 h0 h1) <|
  Eq.trans (mx_iload_n t21 d21_16 (x := x1) rfl) <|
  Eq.trans (mx_qaldR t21 d21_17 h3 h2 h4) <|
  Eq.trans (mx_aload_n t21 d21_18 (x := a0) rfl) <|
  (mx_virt (st := []) (k := 3) t21 [.ref a0] d21_19 vt1_117 rfl rfl (Nat.le_of_ble_eq_true rfl) (Nat.le_of_ble_eq_true rfl) h5)
theorem b21_12_k4 {d : Nat} {S : mm_S} {a0 : Nat} {x1 : Int32} (h0 : mm_obj S a0 1 = true) (h1 : (mm_R S a0 0).isSome = true) (h2 : mm_inb x1 (mm_N S (mm_rg S a0 0)) = true) (h3 : (mm_arr S (mm_rg S a0 0) 16 || mm_arr S (mm_rg S a0 0) 17 || mm_arr S (mm_rg S a0 0) 18) = true) (h4 : (mm_R S (mm_rg S a0 0) (x1).toNatClampNeg).isSome = true) (h5 : mm_rk S (mm_rg S (mm_rg S a0 0) (x1).toNatClampNeg) = 4) : mm_ex (d + 1) 21 12 [.ref a0, .int x1, .null] [] S =
    mm_bd (mm_cl d 32 [.ref (mm_rg S (mm_rg S a0 0) (x1).toNatClampNeg), .ref a0] S) (fun v S2 => mm_ex (d + 1) 21 22 [.ref a0, .int x1, .null] (v.toList ++ []) S2) :=
  Eq.trans (mx_aload_n t21 d21_12 (x := a0) rfl) <|
  Eq.trans (mx_getR t21 d21_13 rfl fl1_11 h0 h1) <|
  Eq.trans (mx_iload_n t21 d21_16 (x := x1) rfl) <|
  Eq.trans (mx_qaldR t21 d21_17 h3 h2 h4) <|
  Eq.trans (mx_aload_n t21 d21_18 (x := a0) rfl) <|
  (mx_virt (st := []) (k := 4) t21 [.ref a0] d21_19 vt1_117 rfl rfl (Nat.le_of_ble_eq_true rfl) (Nat.le_of_ble_eq_true rfl) h5)
theorem b21_12_k7 {d : Nat} {S : mm_S} {a0 : Nat} {x1 : Int32} (h0 : mm_obj S a0 1 = true) (h1 : (mm_R S a0 0).isSome = true) (h2 : mm_inb x1 (mm_N S (mm_rg S a0 0)) = true) (h3 : (mm_arr S (mm_rg S a0 0) 16 || mm_arr S (mm_rg S a0 0) 17 || mm_arr S (mm_rg S a0 0) 18) = true) (h4 : (mm_R S (mm_rg S a0 0) (x1).toNatClampNeg).isSome = true) (h5 : mm_rk S (mm_rg S (mm_rg S a0 0) (x1).toNatClampNeg) = 7) : mm_ex (d + 1) 21 12 [.ref a0, .int x1, .null] [] S =
    mm_bd (mm_cl d 56 [.ref (mm_rg S (mm_rg S a0 0) (x1).toNatClampNeg), .ref a0] S) (fun v S2 => mm_ex (d + 1) 21 22 [.ref a0, .int x1, .null] (v.toList ++ []) S2) :=
  Eq.trans (mx_aload_n t21 d21_12 (x := a0) rfl) <|
  Eq.trans (mx_getR t21 d21_13 rfl fl1_11 h0 h1) <|
  Eq.trans (mx_iload_n t21 d21_16 (x := x1) rfl) <|
  Eq.trans (mx_qaldR t21 d21_17 h3 h2 h4) <|
  Eq.trans (mx_aload_n t21 d21_18 (x := a0) rfl) <|
  (mx_virt (st := []) (k := 7) t21 [.ref a0] d21_19 vt1_117 rfl rfl (Nat.le_of_ble_eq_true rfl) (Nat.le_of_ble_eq_true rfl) h5)
theorem b21_12_k9 {d : Nat} {S : mm_S} {a0 : Nat} {x1 : Int32} (h0 : mm_obj S a0 1 = true) (h1 : (mm_R S a0 0).isSome = true) (h2 : mm_inb x1 (mm_N S (mm_rg S a0 0)) = true) (h3 : (mm_arr S (mm_rg S a0 0) 16 || mm_arr S (mm_rg S a0 0) 17 || mm_arr S (mm_rg S a0 0) 18) = true) (h4 : (mm_R S (mm_rg S a0 0) (x1).toNatClampNeg).isSome = true) (h5 : mm_rk S (mm_rg S (mm_rg S a0 0) (x1).toNatClampNeg) = 9) : mm_ex (d + 1) 21 12 [.ref a0, .int x1, .null] [] S =
    mm_bd (mm_cl d 66 [.ref (mm_rg S (mm_rg S a0 0) (x1).toNatClampNeg), .ref a0] S) (fun v S2 => mm_ex (d + 1) 21 22 [.ref a0, .int x1, .null] (v.toList ++ []) S2) :=
  Eq.trans (mx_aload_n t21 d21_12 (x := a0) rfl) <|
  Eq.trans (mx_getR t21 d21_13 rfl fl1_11 h0 h1) <|
  Eq.trans (mx_iload_n t21 d21_16 (x := x1) rfl) <|
  Eq.trans (mx_qaldR t21 d21_17 h3 h2 h4) <|
  Eq.trans (mx_aload_n t21 d21_18 (x := a0) rfl) <|
  (mx_virt (st := []) (k := 9) t21 [.ref a0] d21_19 vt1_117 rfl rfl (Nat.le_of_ble_eq_true rfl) (Nat.le_of_ble_eq_true rfl) h5)
theorem b21_12_k10 {d : Nat} {S : mm_S} {a0 : Nat} {x1 : Int32} (h0 : mm_obj S a0 1 = true) (h1 : (mm_R S a0 0).isSome = true) (h2 : mm_inb x1 (mm_N S (mm_rg S a0 0)) = true) (h3 : (mm_arr S (mm_rg S a0 0) 16 || mm_arr S (mm_rg S a0 0) 17 || mm_arr S (mm_rg S a0 0) 18) = true) (h4 : (mm_R S (mm_rg S a0 0) (x1).toNatClampNeg).isSome = true) (h5 : mm_rk S (mm_rg S (mm_rg S a0 0) (x1).toNatClampNeg) = 10) : mm_ex (d + 1) 21 12 [.ref a0, .int x1, .null] [] S =
    mm_bd (mm_cl d 70 [.ref (mm_rg S (mm_rg S a0 0) (x1).toNatClampNeg), .ref a0] S) (fun v S2 => mm_ex (d + 1) 21 22 [.ref a0, .int x1, .null] (v.toList ++ []) S2) :=
  Eq.trans (mx_aload_n t21 d21_12 (x := a0) rfl) <|
  Eq.trans (mx_getR t21 d21_13 rfl fl1_11 h0 h1) <|
  Eq.trans (mx_iload_n t21 d21_16 (x := x1) rfl) <|
  Eq.trans (mx_qaldR t21 d21_17 h3 h2 h4) <|
  Eq.trans (mx_aload_n t21 d21_18 (x := a0) rfl) <|
  (mx_virt (st := []) (k := 10) t21 [.ref a0] d21_19 vt1_117 rfl rfl (Nat.le_of_ble_eq_true rfl) (Nat.le_of_ble_eq_true rfl) h5)
theorem b21_22 {d : Nat} {S : mm_S} {a0 : Nat} {x1 : Int32} {p0 : Int32} (h0 : mm_rk S a0 = 1) : mm_ex (d + 1) 21 22 [.ref a0, .int x1, .null] [.int p0] S =
    mm_bd (mm_cl d 22 [.ref a0, .int p0] S) (fun v S2 => mm_ex (d + 1) 21 28 [.ref a0, .int x1, .int p0] (v.toList ++ []) S2) :=
  Eq.trans (mx_istore_n t21 d21_22 (ls' := [.ref a0, .int x1, .int p0]) rfl rfl) <|
  Eq.trans (mx_aload_n t21 d21_23 (x := a0) rfl) <|
  Eq.trans (mx_iload_n t21 d21_24 (x := p0) rfl) <|
  (mx_virt (st := []) (k := 1) t21 [.int p0] d21_25 vt1_121 rfl rfl (Nat.le_of_ble_eq_true rfl) (Nat.le_of_ble_eq_true rfl) h0)
theorem b21_28 {d : Nat} {S : mm_S} {a0 : Nat} {x1 : Int32} {x2 : Int32} : mm_ex d 21 28 [.ref a0, .int x1, .int x2] [] S =
    some (some (.int x2), S) :=
  Eq.trans (mx_iload_n t21 d21_28 (x := x2) rfl) <|
  (mx_iret t21 d21_29 (ty := .int) rfl rfl (fun h => nomatch h))
theorem e21 {d : Nat} {S : mm_S} {a0 : Nat} : mm_cl d 21 [.ref a0] S = mm_ex d 21 0 [.ref a0, .null, .null] [] S := mm_cl_eq t21 (Nat.le_of_ble_eq_true rfl) rfl
/-! X1_carryOut -/
theorem dd22_0 : (decode prog_3_method_17_code 0 = .ok (.aload_n 0, 1)) ∧ (decode prog_3_method_17_code 1 = .ok (.getfield 30, 3)) ∧ (decode prog_3_method_17_code 4 = .ok (.iconst 0, 1)) ∧ (decode prog_3_method_17_code 5 = .ok (.iaload, 1)) ∧ (decode prog_3_method_17_code 6 = .ok (.istore_n 2, 1)) ∧ (decode prog_3_method_17_code 7 = .ok (.aload_n 0, 1)) ∧ (decode prog_3_method_17_code 8 = .ok (.iconst 0, 1)) ∧ (decode prog_3_method_17_code 9 = .ok (.invokevirtual 88, 3)) ∧ (decode prog_3_method_17_code 12 = .ok (.iload_n 1, 1)) ∧ (decode prog_3_method_17_code 13 = .ok (.iconst 1, 1)) ∧ (decode prog_3_method_17_code 14 = .ok (.if_icmp .ne 69, 3)) ∧ (decode prog_3_method_17_code 17 = .ok (.aload_n 0, 1)) ∧ (decode prog_3_method_17_code 18 = .ok (.dup, 1)) ∧ (decode prog_3_method_17_code 19 = .ok (.getfield 68, 3)) ∧ (decode prog_3_method_17_code 22 = .ok (.aload_n 0, 1)) ∧ (decode prog_3_method_17_code 23 = .ok (.getfield 41, 3)) := by decide +kernel
theorem d22_0 : decode prog_3_method_17_code 0 = .ok (.aload_n 0, 1) := dd22_0.1
theorem d22_1 : decode prog_3_method_17_code 1 = .ok (.getfield 30, 3) := dd22_0.2.1
theorem d22_4 : decode prog_3_method_17_code 4 = .ok (.iconst 0, 1) := dd22_0.2.2.1
theorem d22_5 : decode prog_3_method_17_code 5 = .ok (.iaload, 1) := dd22_0.2.2.2.1
theorem d22_6 : decode prog_3_method_17_code 6 = .ok (.istore_n 2, 1) := dd22_0.2.2.2.2.1
theorem d22_7 : decode prog_3_method_17_code 7 = .ok (.aload_n 0, 1) := dd22_0.2.2.2.2.2.1
theorem d22_8 : decode prog_3_method_17_code 8 = .ok (.iconst 0, 1) := dd22_0.2.2.2.2.2.2.1
theorem d22_9 : decode prog_3_method_17_code 9 = .ok (.invokevirtual 88, 3) := dd22_0.2.2.2.2.2.2.2.1
theorem d22_12 : decode prog_3_method_17_code 12 = .ok (.iload_n 1, 1) := dd22_0.2.2.2.2.2.2.2.2.1
theorem d22_13 : decode prog_3_method_17_code 13 = .ok (.iconst 1, 1) := dd22_0.2.2.2.2.2.2.2.2.2.1
theorem d22_14 : decode prog_3_method_17_code 14 = .ok (.if_icmp .ne 69, 3) := dd22_0.2.2.2.2.2.2.2.2.2.2.1
theorem d22_17 : decode prog_3_method_17_code 17 = .ok (.aload_n 0, 1) := dd22_0.2.2.2.2.2.2.2.2.2.2.2.1
theorem d22_18 : decode prog_3_method_17_code 18 = .ok (.dup, 1) := dd22_0.2.2.2.2.2.2.2.2.2.2.2.2.1
theorem d22_19 : decode prog_3_method_17_code 19 = .ok (.getfield 68, 3) := dd22_0.2.2.2.2.2.2.2.2.2.2.2.2.2.1
theorem d22_22 : decode prog_3_method_17_code 22 = .ok (.aload_n 0, 1) := dd22_0.2.2.2.2.2.2.2.2.2.2.2.2.2.2.1
theorem d22_23 : decode prog_3_method_17_code 23 = .ok (.getfield 41, 3) := dd22_0.2.2.2.2.2.2.2.2.2.2.2.2.2.2.2
theorem dd22_26 : (decode prog_3_method_17_code 26 = .ok (.iadd, 1)) ∧ (decode prog_3_method_17_code 27 = .ok (.putfield 68, 3)) ∧ (decode prog_3_method_17_code 30 = .ok (.aload_n 0, 1)) ∧ (decode prog_3_method_17_code 31 = .ok (.dup, 1)) ∧ (decode prog_3_method_17_code 32 = .ok (.getfield 45, 3)) ∧ (decode prog_3_method_17_code 35 = .ok (.iconst 1, 1)) ∧ (decode prog_3_method_17_code 36 = .ok (.isub, 1)) ∧ (decode prog_3_method_17_code 37 = .ok (.putfield 45, 3)) ∧ (decode prog_3_method_17_code 40 = .ok (.aload_n 0, 1)) ∧ (decode prog_3_method_17_code 41 = .ok (.getfield 27, 3)) ∧ (decode prog_3_method_17_code 44 = .ok (.iload_n 2, 1)) ∧ (decode prog_3_method_17_code 45 = .ok (.dup2, 1)) ∧ (decode prog_3_method_17_code 46 = .ok (.iaload, 1)) ∧ (decode prog_3_method_17_code 47 = .ok (.aload_n 0, 1)) ∧ (decode prog_3_method_17_code 48 = .ok (.getfield 94, 3)) ∧ (decode prog_3_method_17_code 51 = .ok (.aload_n 0, 1)) := by decide +kernel
theorem d22_26 : decode prog_3_method_17_code 26 = .ok (.iadd, 1) := dd22_26.1
theorem d22_27 : decode prog_3_method_17_code 27 = .ok (.putfield 68, 3) := dd22_26.2.1
theorem d22_30 : decode prog_3_method_17_code 30 = .ok (.aload_n 0, 1) := dd22_26.2.2.1
theorem d22_31 : decode prog_3_method_17_code 31 = .ok (.dup, 1) := dd22_26.2.2.2.1
theorem d22_32 : decode prog_3_method_17_code 32 = .ok (.getfield 45, 3) := dd22_26.2.2.2.2.1
theorem d22_35 : decode prog_3_method_17_code 35 = .ok (.iconst 1, 1) := dd22_26.2.2.2.2.2.1
theorem d22_36 : decode prog_3_method_17_code 36 = .ok (.isub, 1) := dd22_26.2.2.2.2.2.2.1
theorem d22_37 : decode prog_3_method_17_code 37 = .ok (.putfield 45, 3) := dd22_26.2.2.2.2.2.2.2.1
theorem d22_40 : decode prog_3_method_17_code 40 = .ok (.aload_n 0, 1) := dd22_26.2.2.2.2.2.2.2.2.1
theorem d22_41 : decode prog_3_method_17_code 41 = .ok (.getfield 27, 3) := dd22_26.2.2.2.2.2.2.2.2.2.1
theorem d22_44 : decode prog_3_method_17_code 44 = .ok (.iload_n 2, 1) := dd22_26.2.2.2.2.2.2.2.2.2.2.1
theorem d22_45 : decode prog_3_method_17_code 45 = .ok (.dup2, 1) := dd22_26.2.2.2.2.2.2.2.2.2.2.2.1
theorem d22_46 : decode prog_3_method_17_code 46 = .ok (.iaload, 1) := dd22_26.2.2.2.2.2.2.2.2.2.2.2.2.1
theorem d22_47 : decode prog_3_method_17_code 47 = .ok (.aload_n 0, 1) := dd22_26.2.2.2.2.2.2.2.2.2.2.2.2.2.1
theorem d22_48 : decode prog_3_method_17_code 48 = .ok (.getfield 94, 3) := dd22_26.2.2.2.2.2.2.2.2.2.2.2.2.2.2.1
theorem d22_51 : decode prog_3_method_17_code 51 = .ok (.aload_n 0, 1) := dd22_26.2.2.2.2.2.2.2.2.2.2.2.2.2.2.2
theorem dd22_52 : (decode prog_3_method_17_code 52 = .ok (.getfield 41, 3)) ∧ (decode prog_3_method_17_code 55 = .ok (.isub, 1)) ∧ (decode prog_3_method_17_code 56 = .ok (.iadd, 1)) ∧ (decode prog_3_method_17_code 57 = .ok (.iastore, 1)) ∧ (decode prog_3_method_17_code 58 = .ok (.aload_n 0, 1)) ∧ (decode prog_3_method_17_code 59 = .ok (.sipush 999, 3)) ∧ (decode prog_3_method_17_code 62 = .ok (.aload_n 0, 1)) ∧ (decode prog_3_method_17_code 63 = .ok (.getfield 41, 3)) ∧ (decode prog_3_method_17_code 66 = .ok (.aload_n 0, 1)) ∧ (decode prog_3_method_17_code 67 = .ok (.getfield 48, 3)) ∧ (decode prog_3_method_17_code 70 = .ok (.getfield 124, 3)) ∧ (decode prog_3_method_17_code 73 = .ok (.iadd, 1)) ∧ (decode prog_3_method_17_code 74 = .ok (.invokestatic 127, 3)) ∧ (decode prog_3_method_17_code 77 = .ok (.putfield 41, 3)) ∧ (decode prog_3_method_17_code 80 = .ok (.goto 87, 3)) ∧ (decode prog_3_method_17_code 83 = .ok (.iload_n 1, 1)) := by decide +kernel
theorem d22_52 : decode prog_3_method_17_code 52 = .ok (.getfield 41, 3) := dd22_52.1
theorem d22_55 : decode prog_3_method_17_code 55 = .ok (.isub, 1) := dd22_52.2.1
theorem d22_56 : decode prog_3_method_17_code 56 = .ok (.iadd, 1) := dd22_52.2.2.1
theorem d22_57 : decode prog_3_method_17_code 57 = .ok (.iastore, 1) := dd22_52.2.2.2.1
theorem d22_58 : decode prog_3_method_17_code 58 = .ok (.aload_n 0, 1) := dd22_52.2.2.2.2.1
theorem d22_59 : decode prog_3_method_17_code 59 = .ok (.sipush 999, 3) := dd22_52.2.2.2.2.2.1
theorem d22_62 : decode prog_3_method_17_code 62 = .ok (.aload_n 0, 1) := dd22_52.2.2.2.2.2.2.1
theorem d22_63 : decode prog_3_method_17_code 63 = .ok (.getfield 41, 3) := dd22_52.2.2.2.2.2.2.2.1
theorem d22_66 : decode prog_3_method_17_code 66 = .ok (.aload_n 0, 1) := dd22_52.2.2.2.2.2.2.2.2.1
theorem d22_67 : decode prog_3_method_17_code 67 = .ok (.getfield 48, 3) := dd22_52.2.2.2.2.2.2.2.2.2.1
theorem d22_70 : decode prog_3_method_17_code 70 = .ok (.getfield 124, 3) := dd22_52.2.2.2.2.2.2.2.2.2.2.1
theorem d22_73 : decode prog_3_method_17_code 73 = .ok (.iadd, 1) := dd22_52.2.2.2.2.2.2.2.2.2.2.2.1
theorem d22_74 : decode prog_3_method_17_code 74 = .ok (.invokestatic 127, 3) := dd22_52.2.2.2.2.2.2.2.2.2.2.2.2.1
theorem d22_77 : decode prog_3_method_17_code 77 = .ok (.putfield 41, 3) := dd22_52.2.2.2.2.2.2.2.2.2.2.2.2.2.1
theorem d22_80 : decode prog_3_method_17_code 80 = .ok (.goto 87, 3) := dd22_52.2.2.2.2.2.2.2.2.2.2.2.2.2.2.1
theorem d22_83 : decode prog_3_method_17_code 83 = .ok (.iload_n 1, 1) := dd22_52.2.2.2.2.2.2.2.2.2.2.2.2.2.2.2
theorem dd22_84 : (decode prog_3_method_17_code 84 = .ok (.iconst 2, 1)) ∧ (decode prog_3_method_17_code 85 = .ok (.if_icmp .ne 67, 3)) ∧ (decode prog_3_method_17_code 88 = .ok (.aload_n 0, 1)) ∧ (decode prog_3_method_17_code 89 = .ok (.dup, 1)) ∧ (decode prog_3_method_17_code 90 = .ok (.getfield 68, 3)) ∧ (decode prog_3_method_17_code 93 = .ok (.aload_n 0, 1)) ∧ (decode prog_3_method_17_code 94 = .ok (.getfield 55, 3)) ∧ (decode prog_3_method_17_code 97 = .ok (.iadd, 1)) ∧ (decode prog_3_method_17_code 98 = .ok (.putfield 68, 3)) ∧ (decode prog_3_method_17_code 101 = .ok (.aload_n 0, 1)) ∧ (decode prog_3_method_17_code 102 = .ok (.getfield 27, 3)) ∧ (decode prog_3_method_17_code 105 = .ok (.iload_n 2, 1)) ∧ (decode prog_3_method_17_code 106 = .ok (.dup2, 1)) ∧ (decode prog_3_method_17_code 107 = .ok (.iaload, 1)) ∧ (decode prog_3_method_17_code 108 = .ok (.aload_n 0, 1)) ∧ (decode prog_3_method_17_code 109 = .ok (.getfield 97, 3)) := by decide +kernel
theorem d22_84 : decode prog_3_method_17_code 84 = .ok (.iconst 2, 1) := dd22_84.1
theorem d22_85 : decode prog_3_method_17_code 85 = .ok (.if_icmp .ne 67, 3) := dd22_84.2.1
theorem d22_88 : decode prog_3_method_17_code 88 = .ok (.aload_n 0, 1) := dd22_84.2.2.1
theorem d22_89 : decode prog_3_method_17_code 89 = .ok (.dup, 1) := dd22_84.2.2.2.1
theorem d22_90 : decode prog_3_method_17_code 90 = .ok (.getfield 68, 3) := dd22_84.2.2.2.2.1
theorem d22_93 : decode prog_3_method_17_code 93 = .ok (.aload_n 0, 1) := dd22_84.2.2.2.2.2.1
theorem d22_94 : decode prog_3_method_17_code 94 = .ok (.getfield 55, 3) := dd22_84.2.2.2.2.2.2.1
theorem d22_97 : decode prog_3_method_17_code 97 = .ok (.iadd, 1) := dd22_84.2.2.2.2.2.2.2.1
theorem d22_98 : decode prog_3_method_17_code 98 = .ok (.putfield 68, 3) := dd22_84.2.2.2.2.2.2.2.2.1
theorem d22_101 : decode prog_3_method_17_code 101 = .ok (.aload_n 0, 1) := dd22_84.2.2.2.2.2.2.2.2.2.1
theorem d22_102 : decode prog_3_method_17_code 102 = .ok (.getfield 27, 3) := dd22_84.2.2.2.2.2.2.2.2.2.2.1
theorem d22_105 : decode prog_3_method_17_code 105 = .ok (.iload_n 2, 1) := dd22_84.2.2.2.2.2.2.2.2.2.2.2.1
theorem d22_106 : decode prog_3_method_17_code 106 = .ok (.dup2, 1) := dd22_84.2.2.2.2.2.2.2.2.2.2.2.2.1
theorem d22_107 : decode prog_3_method_17_code 107 = .ok (.iaload, 1) := dd22_84.2.2.2.2.2.2.2.2.2.2.2.2.2.1
theorem d22_108 : decode prog_3_method_17_code 108 = .ok (.aload_n 0, 1) := dd22_84.2.2.2.2.2.2.2.2.2.2.2.2.2.2.1
theorem d22_109 : decode prog_3_method_17_code 109 = .ok (.getfield 97, 3) := dd22_84.2.2.2.2.2.2.2.2.2.2.2.2.2.2.2
theorem dd22_112 : (decode prog_3_method_17_code 112 = .ok (.aload_n 0, 1)) ∧ (decode prog_3_method_17_code 113 = .ok (.getfield 55, 3)) ∧ (decode prog_3_method_17_code 116 = .ok (.iadd, 1)) ∧ (decode prog_3_method_17_code 117 = .ok (.isub, 1)) ∧ (decode prog_3_method_17_code 118 = .ok (.iastore, 1)) ∧ (decode prog_3_method_17_code 119 = .ok (.aload_n 0, 1)) ∧ (decode prog_3_method_17_code 120 = .ok (.aload_n 0, 1)) ∧ (decode prog_3_method_17_code 121 = .ok (.getfield 48, 3)) ∧ (decode prog_3_method_17_code 124 = .ok (.getfield 133, 3)) ∧ (decode prog_3_method_17_code 127 = .ok (.ifCond .ne 12, 3)) ∧ (decode prog_3_method_17_code 130 = .ok (.aload_n 0, 1)) ∧ (decode prog_3_method_17_code 131 = .ok (.getfield 41, 3)) ∧ (decode prog_3_method_17_code 134 = .ok (.iconst 2, 1)) ∧ (decode prog_3_method_17_code 135 = .ok (.idiv, 1)) ∧ (decode prog_3_method_17_code 136 = .ok (.goto 10, 3)) ∧ (decode prog_3_method_17_code 139 = .ok (.aload_n 0, 1)) := by decide +kernel
theorem d22_112 : decode prog_3_method_17_code 112 = .ok (.aload_n 0, 1) := dd22_112.1
theorem d22_113 : decode prog_3_method_17_code 113 = .ok (.getfield 55, 3) := dd22_112.2.1
theorem d22_116 : decode prog_3_method_17_code 116 = .ok (.iadd, 1) := dd22_112.2.2.1
theorem d22_117 : decode prog_3_method_17_code 117 = .ok (.isub, 1) := dd22_112.2.2.2.1
theorem d22_118 : decode prog_3_method_17_code 118 = .ok (.iastore, 1) := dd22_112.2.2.2.2.1
theorem d22_119 : decode prog_3_method_17_code 119 = .ok (.aload_n 0, 1) := dd22_112.2.2.2.2.2.1
theorem d22_120 : decode prog_3_method_17_code 120 = .ok (.aload_n 0, 1) := dd22_112.2.2.2.2.2.2.1
theorem d22_121 : decode prog_3_method_17_code 121 = .ok (.getfield 48, 3) := dd22_112.2.2.2.2.2.2.2.1
theorem d22_124 : decode prog_3_method_17_code 124 = .ok (.getfield 133, 3) := dd22_112.2.2.2.2.2.2.2.2.1
theorem d22_127 : decode prog_3_method_17_code 127 = .ok (.ifCond .ne 12, 3) := dd22_112.2.2.2.2.2.2.2.2.2.1
theorem d22_130 : decode prog_3_method_17_code 130 = .ok (.aload_n 0, 1) := dd22_112.2.2.2.2.2.2.2.2.2.2.1
theorem d22_131 : decode prog_3_method_17_code 131 = .ok (.getfield 41, 3) := dd22_112.2.2.2.2.2.2.2.2.2.2.2.1
theorem d22_134 : decode prog_3_method_17_code 134 = .ok (.iconst 2, 1) := dd22_112.2.2.2.2.2.2.2.2.2.2.2.2.1
theorem d22_135 : decode prog_3_method_17_code 135 = .ok (.idiv, 1) := dd22_112.2.2.2.2.2.2.2.2.2.2.2.2.2.1
theorem d22_136 : decode prog_3_method_17_code 136 = .ok (.goto 10, 3) := dd22_112.2.2.2.2.2.2.2.2.2.2.2.2.2.2.1
theorem d22_139 : decode prog_3_method_17_code 139 = .ok (.aload_n 0, 1) := dd22_112.2.2.2.2.2.2.2.2.2.2.2.2.2.2.2
theorem dd22_140 : (decode prog_3_method_17_code 140 = .ok (.getfield 48, 3)) ∧ (decode prog_3_method_17_code 143 = .ok (.getfield 133, 3)) ∧ (decode prog_3_method_17_code 146 = .ok (.putfield 41, 3)) ∧ (decode prog_3_method_17_code 149 = .ok (.goto 18, 3)) ∧ (decode prog_3_method_17_code 152 = .ok (.aload_n 0, 1)) ∧ (decode prog_3_method_17_code 153 = .ok (.getfield 24, 3)) ∧ (decode prog_3_method_17_code 156 = .ok (.iload_n 2, 1)) ∧ (decode prog_3_method_17_code 157 = .ok (.dup2, 1)) ∧ (decode prog_3_method_17_code 158 = .ok (.iaload, 1)) ∧ (decode prog_3_method_17_code 159 = .ok (.iconst 1, 1)) ∧ (decode prog_3_method_17_code 160 = .ok (.iadd, 1)) ∧ (decode prog_3_method_17_code 161 = .ok (.iastore, 1)) ∧ (decode prog_3_method_17_code 162 = .ok (.aload_n 0, 1)) ∧ (decode prog_3_method_17_code 163 = .ok (.iload_n 2, 1)) ∧ (decode prog_3_method_17_code 164 = .ok (.invokevirtual 80, 3)) ∧ (decode prog_3_method_17_code 167 = .ok (.aload_n 0, 1)) := by decide +kernel
theorem d22_140 : decode prog_3_method_17_code 140 = .ok (.getfield 48, 3) := dd22_140.1
theorem d22_143 : decode prog_3_method_17_code 143 = .ok (.getfield 133, 3) := dd22_140.2.1
theorem d22_146 : decode prog_3_method_17_code 146 = .ok (.putfield 41, 3) := dd22_140.2.2.1
theorem d22_149 : decode prog_3_method_17_code 149 = .ok (.goto 18, 3) := dd22_140.2.2.2.1
theorem d22_152 : decode prog_3_method_17_code 152 = .ok (.aload_n 0, 1) := dd22_140.2.2.2.2.1
theorem d22_153 : decode prog_3_method_17_code 153 = .ok (.getfield 24, 3) := dd22_140.2.2.2.2.2.1
theorem d22_156 : decode prog_3_method_17_code 156 = .ok (.iload_n 2, 1) := dd22_140.2.2.2.2.2.2.1
theorem d22_157 : decode prog_3_method_17_code 157 = .ok (.dup2, 1) := dd22_140.2.2.2.2.2.2.2.1
theorem d22_158 : decode prog_3_method_17_code 158 = .ok (.iaload, 1) := dd22_140.2.2.2.2.2.2.2.2.1
theorem d22_159 : decode prog_3_method_17_code 159 = .ok (.iconst 1, 1) := dd22_140.2.2.2.2.2.2.2.2.2.1
theorem d22_160 : decode prog_3_method_17_code 160 = .ok (.iadd, 1) := dd22_140.2.2.2.2.2.2.2.2.2.2.1
theorem d22_161 : decode prog_3_method_17_code 161 = .ok (.iastore, 1) := dd22_140.2.2.2.2.2.2.2.2.2.2.2.1
theorem d22_162 : decode prog_3_method_17_code 162 = .ok (.aload_n 0, 1) := dd22_140.2.2.2.2.2.2.2.2.2.2.2.2.1
theorem d22_163 : decode prog_3_method_17_code 163 = .ok (.iload_n 2, 1) := dd22_140.2.2.2.2.2.2.2.2.2.2.2.2.2.1
theorem d22_164 : decode prog_3_method_17_code 164 = .ok (.invokevirtual 80, 3) := dd22_140.2.2.2.2.2.2.2.2.2.2.2.2.2.2.1
theorem d22_167 : decode prog_3_method_17_code 167 = .ok (.aload_n 0, 1) := dd22_140.2.2.2.2.2.2.2.2.2.2.2.2.2.2.2
theorem dd22_168 : (decode prog_3_method_17_code 168 = .ok (.dup, 1)) ∧ (decode prog_3_method_17_code 169 = .ok (.getfield 71, 3)) ∧ (decode prog_3_method_17_code 172 = .ok (.iconst 1, 1)) ∧ (decode prog_3_method_17_code 173 = .ok (.iadd, 1)) ∧ (decode prog_3_method_17_code 174 = .ok (.putfield 71, 3)) ∧ (decode prog_3_method_17_code 177 = .ok (.return_, 1)) := by decide +kernel
theorem d22_168 : decode prog_3_method_17_code 168 = .ok (.dup, 1) := dd22_168.1
theorem d22_169 : decode prog_3_method_17_code 169 = .ok (.getfield 71, 3) := dd22_168.2.1
theorem d22_172 : decode prog_3_method_17_code 172 = .ok (.iconst 1, 1) := dd22_168.2.2.1
theorem d22_173 : decode prog_3_method_17_code 173 = .ok (.iadd, 1) := dd22_168.2.2.2.1
theorem d22_174 : decode prog_3_method_17_code 174 = .ok (.putfield 71, 3) := dd22_168.2.2.2.2.1
theorem d22_177 : decode prog_3_method_17_code 177 = .ok (.return_, 1) := dd22_168.2.2.2.2.2
theorem b22_0 {d : Nat} {S : mm_S} {a0 : Nat} {x1 : Int32} (h0 : mm_obj S a0 1 = true) (h1 : (mm_R S a0 5).isSome = true) (h2 : mm_inb (nI 0) (mm_N S (mm_rg S a0 5)) = true) (h3 : mm_arr S (mm_rg S a0 5) 13 = true) (h4 : mm_rk S a0 = 1) : mm_ex (d + 1) 22 0 [.ref a0, .int x1, .null] [] S =
    mm_bd (mm_cl d 14 [.ref a0, .int (nI 0)] S) (fun v S2 => mm_ex (d + 1) 22 12 [.ref a0, .int x1, .int (mm_M S (mm_rg S a0 5) (nI 0).toNatClampNeg)] (v.toList ++ []) S2) :=
  Eq.trans (mx_aload_n t22 d22_0 (x := a0) rfl) <|
  Eq.trans (mx_getR t22 d22_1 rfl fl1_30 h0 h1) <|
  Eq.trans (mx_iconst t22 d22_4 (v := nI 0) rfl) <|
  Eq.trans (mx_iald t22 d22_5 h3 h2) <|
  Eq.trans (mx_istore_n t22 d22_6 (ls' := [.ref a0, .int x1, .int (mm_M S (mm_rg S a0 5) (nI 0).toNatClampNeg)]) rfl rfl) <|
  Eq.trans (mx_aload_n t22 d22_7 (x := a0) rfl) <|
  Eq.trans (mx_iconst t22 d22_8 (v := nI 0) rfl) <|
  (mx_virt (st := []) (k := 1) t22 [.int (nI 0)] d22_9 vt1_88 rfl rfl (Nat.le_of_ble_eq_true rfl) (Nat.le_of_ble_eq_true rfl) h4)
theorem b22_12 {d : Nat} {S : mm_S} {a0 : Nat} {x1 : Int32} {x2 : Int32} : mm_ex d 22 12 [.ref a0, .int x1, .int x2] [] S =
    if x1 = (nI 1) then mm_ex d 22 17 [.ref a0, .int x1, .int x2] [] S else mm_ex d 22 83 [.ref a0, .int x1, .int x2] [] S :=
  Eq.trans (mx_iload_n t22 d22_12 (x := x1) rfl) <|
  Eq.trans (mx_iconst t22 d22_13 (v := nI 1) rfl) <|
  (mx_cne t22 d22_14 (tgt := 83) (by decide))
theorem b22_17 {d : Nat} {S : mm_S} {a0 : Nat} {x1 : Int32} {x2 : Int32} (h0 : mm_obj S a0 1 = true) : mm_ex d 22 17 [.ref a0, .int x1, .int x2] [] S =
    mm_ex d 22 32 [.ref a0, .int x1, .int x2] [.ref a0, .ref a0] (mm_uM S a0 14 ((mm_M S a0 14) + (mm_M S a0 12))) :=
  Eq.trans (mx_aload_n t22 d22_17 (x := a0) rfl) <|
  Eq.trans (mx_dupr t22 d22_18) <|
  Eq.trans (mx_geti t22 d22_19 rfl fl1_68 h0) <|
  Eq.trans (mx_aload_n t22 d22_22 (x := a0) rfl) <|
  Eq.trans (mx_geti t22 d22_23 rfl fl1_41 h0) <|
  Eq.trans (mx_iadd t22 d22_26) <|
  Eq.trans (mx_puti2 t22 d22_27 fl1_68 rfl h0) <|
  Eq.trans (mx_aload_n t22 d22_30 (x := a0) rfl) <|
  (mx_dupr t22 d22_31)
theorem b22_32 {d : Nat} {S : mm_S} {a0 : Nat} {x1 : Int32} {x2 : Int32} {p0 : Nat} {p1 : Nat} (h0 : mm_obj S p0 1 = true) (h1 : mm_obj S p1 1 = true) (h2 : mm_obj S a0 1 = true) (h3 : (mm_R S a0 4).isSome = true) : mm_ex d 22 32 [.ref a0, .int x1, .int x2] [.ref p0, .ref p1] S =
    mm_ex d 22 46 [.ref a0, .int x1, .int x2] [.int x2, .ref (mm_rg S a0 4), .int x2, .ref (mm_rg S a0 4)] (mm_uM S p1 13 ((mm_M S p0 13) - (nI 1))) :=
  Eq.trans (mx_geti t22 d22_32 rfl fl1_45 h0) <|
  Eq.trans (mx_iconst t22 d22_35 (v := nI 1) rfl) <|
  Eq.trans (mx_isub t22 d22_36) <|
  Eq.trans (mx_puti2 t22 d22_37 fl1_45 rfl h1) <|
  Eq.trans (mx_aload_n t22 d22_40 (x := a0) rfl) <|
  Eq.trans (mx_getR t22 d22_41 rfl fl1_27 h2 h3) <|
  Eq.trans (mx_iload_n t22 d22_44 (x := x2) rfl) <|
  (mx_dup2i t22 d22_45)
theorem b22_46 {d : Nat} {S : mm_S} {a0 : Nat} {x1 : Int32} {x2 : Int32} {p0 : Int32} {p1 : Nat} {p2 : Int32} {p3 : Nat} (h0 : mm_inb p0 (mm_N S p1) = true) (h1 : mm_arr S p1 13 = true) (h2 : mm_obj S a0 1 = true) (h3 : mm_arr S p3 13 = true) (h4 : mm_inb p2 (mm_N S p3) = true) : mm_ex d 22 46 [.ref a0, .int x1, .int x2] [.int p0, .ref p1, .int p2, .ref p3] S =
    mm_ex d 22 63 [.ref a0, .int x1, .int x2] [.ref a0, .int (nI 999), .ref a0] (mm_uM S p3 (p2).toNatClampNeg ((mm_M S p1 (p0).toNatClampNeg) + ((mm_M S a0 18) - (mm_M S a0 12)))) :=
  Eq.trans (mx_iald t22 d22_46 h1 h0) <|
  Eq.trans (mx_aload_n t22 d22_47 (x := a0) rfl) <|
  Eq.trans (mx_geti t22 d22_48 rfl fl1_94 h2) <|
  Eq.trans (mx_aload_n t22 d22_51 (x := a0) rfl) <|
  Eq.trans (mx_geti t22 d22_52 rfl fl1_41 h2) <|
  Eq.trans (mx_isub t22 d22_55) <|
  Eq.trans (mx_iadd t22 d22_56) <|
  Eq.trans (mx_iast2 t22 d22_57 h3 h4) <|
  Eq.trans (mx_aload_n t22 d22_58 (x := a0) rfl) <|
  Eq.trans (mx_sipush t22 d22_59 (v := nI 999) rfl) <|
  (mx_aload_n t22 d22_62 (x := a0) rfl)
theorem b22_63 {d : Nat} {S : mm_S} {a0 : Nat} {x1 : Int32} {x2 : Int32} {p0 : Nat} {p1 : Int32} {p2 : Nat} (h0 : mm_obj S p0 1 = true) (h1 : mm_obj S a0 1 = true) (h2 : (mm_R S a0 8).isSome = true) (h3 : mm_obj S (mm_rg S a0 8) 6 = true) (h4 : mm_obj S p2 1 = true) : mm_ex (d + 1) 22 63 [.ref a0, .int x1, .int x2] [.ref p0, .int p1, .ref p2] S =
    mm_ex (d + 1) 22 169 [.ref a0, .int x1, .int x2] [.ref a0, .ref a0] (mm_uM S p2 12 (if ((mm_M S p0 12) + (mm_M S (mm_rg S a0 8) 0)) < p1 then ((mm_M S p0 12) + (mm_M S (mm_rg S a0 8) 0)) else p1)) :=
  Eq.trans (mx_geti t22 d22_63 rfl fl1_41 h0) <|
  Eq.trans (mx_aload_n t22 d22_66 (x := a0) rfl) <|
  Eq.trans (mx_getR t22 d22_67 rfl fl1_48 h1 h2) <|
  Eq.trans (mx_geti t22 d22_70 rfl fl1_124 h3) <|
  Eq.trans (mx_iadd t22 d22_73) <|
  Eq.trans (mx_math t22 d22_74 (k := 0) acn1_127 mxx1_127 (Nat.le_of_ble_eq_true rfl)) <|
  Eq.trans (mx_puti2 t22 d22_77 fl1_41 rfl h4) <|
  Eq.trans (mx_goto t22 d22_80 (tgt := 167) (by decide)) <|
  Eq.trans (mx_aload_n t22 d22_167 (x := a0) rfl) <|
  (mx_dupr t22 d22_168)
theorem b22_83 {d : Nat} {S : mm_S} {a0 : Nat} {x1 : Int32} {x2 : Int32} : mm_ex d 22 83 [.ref a0, .int x1, .int x2] [] S =
    if x1 = (nI 2) then mm_ex d 22 88 [.ref a0, .int x1, .int x2] [] S else mm_ex d 22 152 [.ref a0, .int x1, .int x2] [] S :=
  Eq.trans (mx_iload_n t22 d22_83 (x := x1) rfl) <|
  Eq.trans (mx_iconst t22 d22_84 (v := nI 2) rfl) <|
  (mx_cne t22 d22_85 (tgt := 152) (by decide))
theorem b22_88 {d : Nat} {S : mm_S} {a0 : Nat} {x1 : Int32} {x2 : Int32} (h0 : mm_obj S a0 1 = true) (h1 : (mm_R S a0 4).isSome = true) : mm_ex d 22 88 [.ref a0, .int x1, .int x2] [] S =
    mm_ex d 22 107 [.ref a0, .int x1, .int x2] [.int x2, .ref (mm_rg S a0 4), .int x2, .ref (mm_rg S a0 4)] (mm_uM S a0 14 ((mm_M S a0 14) + (mm_M S a0 9))) :=
  Eq.trans (mx_aload_n t22 d22_88 (x := a0) rfl) <|
  Eq.trans (mx_dupr t22 d22_89) <|
  Eq.trans (mx_geti t22 d22_90 rfl fl1_68 h0) <|
  Eq.trans (mx_aload_n t22 d22_93 (x := a0) rfl) <|
  Eq.trans (mx_geti t22 d22_94 rfl fl1_55 h0) <|
  Eq.trans (mx_iadd t22 d22_97) <|
  Eq.trans (mx_puti2 t22 d22_98 fl1_68 rfl h0) <|
  Eq.trans (mx_aload_n t22 d22_101 (x := a0) rfl) <|
  Eq.trans (mx_getR t22 d22_102 rfl fl1_27 h0 h1) <|
  Eq.trans (mx_iload_n t22 d22_105 (x := x2) rfl) <|
  (mx_dup2i t22 d22_106)
theorem b22_107 {d : Nat} {S : mm_S} {a0 : Nat} {x1 : Int32} {x2 : Int32} {p0 : Int32} {p1 : Nat} {p2 : Int32} {p3 : Nat} (h0 : mm_inb p0 (mm_N S p1) = true) (h1 : mm_arr S p1 13 = true) (h2 : mm_obj S a0 1 = true) (h3 : mm_arr S p3 13 = true) (h4 : mm_inb p2 (mm_N S p3) = true) (h5 : (mm_R S a0 8).isSome = true) : mm_ex d 22 107 [.ref a0, .int x1, .int x2] [.int p0, .ref p1, .int p2, .ref p3] S =
    mm_ex d 22 124 [.ref a0, .int x1, .int x2] [.ref (mm_rg S a0 8), .ref a0] (mm_uM S p3 (p2).toNatClampNeg ((mm_M S p1 (p0).toNatClampNeg) - ((mm_M S a0 19) + (mm_M S a0 9)))) :=
  Eq.trans (mx_iald t22 d22_107 h1 h0) <|
  Eq.trans (mx_aload_n t22 d22_108 (x := a0) rfl) <|
  Eq.trans (mx_geti t22 d22_109 rfl fl1_97 h2) <|
  Eq.trans (mx_aload_n t22 d22_112 (x := a0) rfl) <|
  Eq.trans (mx_geti t22 d22_113 rfl fl1_55 h2) <|
  Eq.trans (mx_iadd t22 d22_116) <|
  Eq.trans (mx_isub t22 d22_117) <|
  Eq.trans (mx_iast2 t22 d22_118 h3 h4) <|
  Eq.trans (mx_aload_n t22 d22_119 (x := a0) rfl) <|
  Eq.trans (mx_aload_n t22 d22_120 (x := a0) rfl) <|
  (mx_getR t22 d22_121 rfl fl1_48 h2 h5)
theorem b22_124 {d : Nat} {S : mm_S} {a0 : Nat} {x1 : Int32} {x2 : Int32} {p0 : Nat} {p1 : Nat} (h0 : mm_obj S p0 6 = true) : mm_ex d 22 124 [.ref a0, .int x1, .int x2] [.ref p0, .ref p1] S =
    if (mm_M S p0 1) = nI 0 then mm_ex d 22 130 [.ref a0, .int x1, .int x2] [.ref p1] S else mm_ex d 22 139 [.ref a0, .int x1, .int x2] [.ref p1] S :=
  Eq.trans (mx_geti t22 d22_124 rfl fl1_133 h0) <|
  (mx_ine t22 d22_127 (tgt := 139) (by decide))
theorem b22_130 {d : Nat} {S : mm_S} {a0 : Nat} {x1 : Int32} {x2 : Int32} {p0 : Nat} (h0 : mm_obj S a0 1 = true) (h1 : mm_obj S p0 1 = true) : mm_ex d 22 130 [.ref a0, .int x1, .int x2] [.ref p0] S =
    mm_ex d 22 169 [.ref a0, .int x1, .int x2] [.ref a0, .ref a0] (mm_uM S p0 12 ((mm_M S a0 12) / (nI 2))) :=
  Eq.trans (mx_aload_n t22 d22_130 (x := a0) rfl) <|
  Eq.trans (mx_geti t22 d22_131 rfl fl1_41 h0) <|
  Eq.trans (mx_iconst t22 d22_134 (v := nI 2) rfl) <|
  Eq.trans (mx_idiv t22 d22_135 (by decide)) <|
  Eq.trans (mx_goto t22 d22_136 (tgt := 146) (by decide)) <|
  Eq.trans (mx_puti2 t22 d22_146 fl1_41 rfl h1) <|
  Eq.trans (mx_goto t22 d22_149 (tgt := 167) (by decide)) <|
  Eq.trans (mx_aload_n t22 d22_167 (x := a0) rfl) <|
  (mx_dupr t22 d22_168)
theorem b22_139 {d : Nat} {S : mm_S} {a0 : Nat} {x1 : Int32} {x2 : Int32} {p0 : Nat} (h0 : mm_obj S a0 1 = true) (h1 : (mm_R S a0 8).isSome = true) (h2 : mm_obj S (mm_rg S a0 8) 6 = true) (h3 : mm_obj S p0 1 = true) : mm_ex d 22 139 [.ref a0, .int x1, .int x2] [.ref p0] S =
    mm_ex d 22 169 [.ref a0, .int x1, .int x2] [.ref a0, .ref a0] (mm_uM S p0 12 (mm_M S (mm_rg S a0 8) 1)) :=
  Eq.trans (mx_aload_n t22 d22_139 (x := a0) rfl) <|
  Eq.trans (mx_getR t22 d22_140 rfl fl1_48 h0 h1) <|
  Eq.trans (mx_geti t22 d22_143 rfl fl1_133 h2) <|
  Eq.trans (mx_puti2 t22 d22_146 fl1_41 rfl h3) <|
  Eq.trans (mx_goto t22 d22_149 (tgt := 167) (by decide)) <|
  Eq.trans (mx_aload_n t22 d22_167 (x := a0) rfl) <|
  (mx_dupr t22 d22_168)
theorem b22_152 {d : Nat} {S : mm_S} {a0 : Nat} {x1 : Int32} {x2 : Int32} (h0 : mm_obj S a0 1 = true) (h1 : (mm_R S a0 3).isSome = true) (h2 : mm_inb x2 (mm_N S (mm_rg S a0 3)) = true) (h3 : mm_arr S (mm_rg S a0 3) 13 = true) (h4 : mm_rk S a0 = 1) : mm_ex (d + 1) 22 152 [.ref a0, .int x1, .int x2] [] S =
    mm_bd (mm_cl d 13 [.ref a0, .int x2] (mm_uM S (mm_rg S a0 3) (x2).toNatClampNeg ((mm_M S (mm_rg S a0 3) (x2).toNatClampNeg) + (nI 1)))) (fun v S2 => mm_ex (d + 1) 22 167 [.ref a0, .int x1, .int x2] (v.toList ++ []) S2) :=
  Eq.trans (mx_aload_n t22 d22_152 (x := a0) rfl) <|
  Eq.trans (mx_getR t22 d22_153 rfl fl1_24 h0 h1) <|
  Eq.trans (mx_iload_n t22 d22_156 (x := x2) rfl) <|
  Eq.trans (mx_dup2i t22 d22_157) <|
  Eq.trans (mx_iald t22 d22_158 h3 h2) <|
  Eq.trans (mx_iconst t22 d22_159 (v := nI 1) rfl) <|
  Eq.trans (mx_iadd t22 d22_160) <|
  Eq.trans (mx_iast2 t22 d22_161 h3 h2) <|
  Eq.trans (mx_aload_n t22 d22_162 (x := a0) rfl) <|
  Eq.trans (mx_iload_n t22 d22_163 (x := x2) rfl) <|
  (mx_virt (st := []) (k := 1) t22 [.int x2] d22_164 vt1_80 rfl rfl (Nat.le_of_ble_eq_true rfl) (Nat.le_of_ble_eq_true rfl) h4)
theorem b22_167 {d : Nat} {S : mm_S} {a0 : Nat} {x1 : Int32} {x2 : Int32} (h0 : mm_obj S a0 1 = true) : mm_ex d 22 167 [.ref a0, .int x1, .int x2] [] S =
    some (none, (mm_uM S a0 15 ((mm_M S a0 15) + (nI 1)))) :=
  Eq.trans (mx_aload_n t22 d22_167 (x := a0) rfl) <|
  Eq.trans (mx_dupr t22 d22_168) <|
  Eq.trans (mx_geti t22 d22_169 rfl fl1_71 h0) <|
  Eq.trans (mx_iconst t22 d22_172 (v := nI 1) rfl) <|
  Eq.trans (mx_iadd t22 d22_173) <|
  Eq.trans (mx_puti2 t22 d22_174 fl1_71 rfl h0) <|
  (mx_vret t22 d22_177 rfl)
theorem b22_169 {d : Nat} {S : mm_S} {a0 : Nat} {x1 : Int32} {x2 : Int32} {p0 : Nat} {p1 : Nat} (h0 : mm_obj S p0 1 = true) (h1 : mm_obj S p1 1 = true) : mm_ex d 22 169 [.ref a0, .int x1, .int x2] [.ref p0, .ref p1] S =
    some (none, (mm_uM S p1 15 ((mm_M S p0 15) + (nI 1)))) :=
  Eq.trans (mx_geti t22 d22_169 rfl fl1_71 h0) <|
  Eq.trans (mx_iconst t22 d22_172 (v := nI 1) rfl) <|
  Eq.trans (mx_iadd t22 d22_173) <|
  Eq.trans (mx_puti2 t22 d22_174 fl1_71 rfl h1) <|
  (mx_vret t22 d22_177 rfl)
theorem e22 {d : Nat} {S : mm_S} {a0 : Nat} {x1 : Int32} : mm_cl d 22 [.ref a0, .int x1] S = mm_ex d 22 0 [.ref a0, .int x1, .null] [] S := mm_cl_eq t22 (Nat.le_of_ble_eq_true rfl) rfl
/-! X1_toEnd -/
theorem d23_0 : decode prog_3_method_18_code 0 = .ok (.iconst 0, 1) := by decide +kernel
theorem d23_1 : decode prog_3_method_18_code 1 = .ok (.istore_n 1, 1) := by decide +kernel
theorem d23_2 : decode prog_3_method_18_code 2 = .ok (.iload_n 1, 1) := by decide +kernel
theorem d23_3 : decode prog_3_method_18_code 3 = .ok (.sipush 1000, 3) := by decide +kernel
theorem d23_6 : decode prog_3_method_18_code 6 = .ok (.if_icmp .ge 21, 3) := by decide +kernel
theorem d23_9 : decode prog_3_method_18_code 9 = .ok (.aload_n 0, 1) := by decide +kernel
theorem d23_10 : decode prog_3_method_18_code 10 = .ok (.invokevirtual 136, 3) := by decide +kernel
theorem d23_13 : decode prog_3_method_18_code 13 = .ok (.ifCond .eq 14, 3) := by decide +kernel
theorem d23_16 : decode prog_3_method_18_code 16 = .ok (.aload_n 0, 1) := by decide +kernel
theorem d23_17 : decode prog_3_method_18_code 17 = .ok (.invokevirtual 140, 3) := by decide +kernel
theorem d23_20 : decode prog_3_method_18_code 20 = .ok (.pop, 1) := by decide +kernel
theorem d23_21 : decode prog_3_method_18_code 21 = .ok (.iinc 1 1, 3) := by decide +kernel
theorem d23_24 : decode prog_3_method_18_code 24 = .ok (.goto (-22), 3) := by decide +kernel
theorem d23_27 : decode prog_3_method_18_code 27 = .ok (.return_, 1) := by decide +kernel
theorem b23_0 {d : Nat} {S : mm_S} {a0 : Nat} : mm_ex d 23 0 [.ref a0, .null] [] S =
    mm_ex d 23 2 [.ref a0, .int (nI 0)] [] S :=
  Eq.trans (mx_iconst t23 d23_0 (v := nI 0) rfl) <|
  (mx_istore_n t23 d23_1 (ls' := [.ref a0, .int (nI 0)]) rfl rfl)
theorem b23_2 {d : Nat} {S : mm_S} {a0 : Nat} {x1 : Int32} : mm_ex d 23 2 [.ref a0, .int x1] [] S =
    if (nI 1000) ≤ x1 then mm_ex d 23 27 [.ref a0, .int x1] [] S else mm_ex d 23 9 [.ref a0, .int x1] [] S :=
  Eq.trans (mx_iload_n t23 d23_2 (x := x1) rfl) <|
  Eq.trans (mx_sipush t23 d23_3 (v := nI 1000) rfl) <|
  (mx_cge t23 d23_6 (tgt := 27) (by decide))
theorem b23_9 {d : Nat} {S : mm_S} {a0 : Nat} {x1 : Int32} (h0 : mm_rk S a0 = 1) : mm_ex (d + 1) 23 9 [.ref a0, .int x1] [] S =
    mm_bd (mm_cl d 20 [.ref a0] S) (fun v S2 => mm_ex (d + 1) 23 13 [.ref a0, .int x1] (v.toList ++ []) S2) :=
  Eq.trans (mx_aload_n t23 d23_9 (x := a0) rfl) <|
  (mx_virt (st := []) (k := 1) t23 [] d23_10 vt1_136 rfl rfl (Nat.le_of_ble_eq_true rfl) (Nat.le_of_ble_eq_true rfl) h0)
theorem b23_13 {d : Nat} {S : mm_S} {a0 : Nat} {x1 : Int32} {p0 : Int32} : mm_ex d 23 13 [.ref a0, .int x1] [.int p0] S =
    if p0 = nI 0 then mm_ex d 23 27 [.ref a0, .int x1] [] S else mm_ex d 23 16 [.ref a0, .int x1] [] S :=
  (mx_ieq t23 d23_13 (tgt := 27) (by decide))
theorem b23_16 {d : Nat} {S : mm_S} {a0 : Nat} {x1 : Int32} (h0 : mm_rk S a0 = 1) : mm_ex (d + 1) 23 16 [.ref a0, .int x1] [] S =
    mm_bd (mm_cl d 21 [.ref a0] S) (fun v S2 => mm_ex (d + 1) 23 20 [.ref a0, .int x1] (v.toList ++ []) S2) :=
  Eq.trans (mx_aload_n t23 d23_16 (x := a0) rfl) <|
  (mx_virt (st := []) (k := 1) t23 [] d23_17 vt1_140 rfl rfl (Nat.le_of_ble_eq_true rfl) (Nat.le_of_ble_eq_true rfl) h0)
theorem b23_20 {d : Nat} {S : mm_S} {a0 : Nat} {x1 : Int32} {p0 : Int32} : mm_ex d 23 20 [.ref a0, .int x1] [.int p0] S =
    mm_ex d 23 2 [.ref a0, .int (x1 + nI 1)] [] S :=
  Eq.trans (mx_popi t23 d23_20) <|
  Eq.trans (mx_iinc t23 d23_21 (x := x1) (v := nI 1) (ls' := [.ref a0, .int (x1 + nI 1)]) rfl rfl rfl rfl) <|
  (mx_goto t23 d23_24 (tgt := 2) (by decide))
theorem b23_27 {d : Nat} {S : mm_S} {a0 : Nat} {x1 : Int32} : mm_ex d 23 27 [.ref a0, .int x1] [] S =
    some (none, S) :=
  (mx_vret t23 d23_27 rfl)
theorem e23 {d : Nat} {S : mm_S} {a0 : Nat} : mm_cl d 23 [.ref a0] S = mm_ex d 23 0 [.ref a0, .null] [] S := mm_cl_eq t23 (Nat.le_of_ble_eq_true rfl) rfl
/-! X1_gainedByAll -/
theorem d24_0 : decode prog_3_method_19_code 0 = .ok (.iconst 0, 1) := by decide +kernel
theorem d24_1 : decode prog_3_method_19_code 1 = .ok (.istore_n 1, 1) := by decide +kernel
theorem d24_2 : decode prog_3_method_19_code 2 = .ok (.iconst 0, 1) := by decide +kernel
theorem d24_3 : decode prog_3_method_19_code 3 = .ok (.istore_n 2, 1) := by decide +kernel
theorem d24_4 : decode prog_3_method_19_code 4 = .ok (.iload_n 2, 1) := by decide +kernel
theorem d24_5 : decode prog_3_method_19_code 5 = .ok (.aload_n 0, 1) := by decide +kernel
theorem d24_6 : decode prog_3_method_19_code 6 = .ok (.getfield 62, 3) := by decide +kernel
theorem d24_9 : decode prog_3_method_19_code 9 = .ok (.if_icmp .ge 18, 3) := by decide +kernel
theorem d24_12 : decode prog_3_method_19_code 12 = .ok (.iload_n 1, 1) := by decide +kernel
theorem d24_13 : decode prog_3_method_19_code 13 = .ok (.aload_n 0, 1) := by decide +kernel
theorem d24_14 : decode prog_3_method_19_code 14 = .ok (.getfield 27, 3) := by decide +kernel
theorem d24_17 : decode prog_3_method_19_code 17 = .ok (.iload_n 2, 1) := by decide +kernel
theorem d24_18 : decode prog_3_method_19_code 18 = .ok (.iaload, 1) := by decide +kernel
theorem d24_19 : decode prog_3_method_19_code 19 = .ok (.iadd, 1) := by decide +kernel
theorem d24_20 : decode prog_3_method_19_code 20 = .ok (.istore_n 1, 1) := by decide +kernel
theorem d24_21 : decode prog_3_method_19_code 21 = .ok (.iinc 2 1, 3) := by decide +kernel
theorem d24_24 : decode prog_3_method_19_code 24 = .ok (.goto (-20), 3) := by decide +kernel
theorem d24_27 : decode prog_3_method_19_code 27 = .ok (.iload_n 1, 1) := by decide +kernel
theorem d24_28 : decode prog_3_method_19_code 28 = .ok (.ireturn, 1) := by decide +kernel
theorem b24_0 {d : Nat} {S : mm_S} {a0 : Nat} : mm_ex d 24 0 [.ref a0, .null, .null] [] S =
    mm_ex d 24 4 [.ref a0, .int (nI 0), .int (nI 0)] [] S :=
  Eq.trans (mx_iconst t24 d24_0 (v := nI 0) rfl) <|
  Eq.trans (mx_istore_n t24 d24_1 (ls' := [.ref a0, .int (nI 0), .null]) rfl rfl) <|
  Eq.trans (mx_iconst t24 d24_2 (v := nI 0) rfl) <|
  (mx_istore_n t24 d24_3 (ls' := [.ref a0, .int (nI 0), .int (nI 0)]) rfl rfl)
theorem b24_4 {d : Nat} {S : mm_S} {a0 : Nat} {x1 : Int32} {x2 : Int32} (h0 : mm_obj S a0 1 = true) : mm_ex d 24 4 [.ref a0, .int x1, .int x2] [] S =
    if (mm_M S a0 10) ≤ x2 then mm_ex d 24 27 [.ref a0, .int x1, .int x2] [] S else mm_ex d 24 12 [.ref a0, .int x1, .int x2] [] S :=
  Eq.trans (mx_iload_n t24 d24_4 (x := x2) rfl) <|
  Eq.trans (mx_aload_n t24 d24_5 (x := a0) rfl) <|
  Eq.trans (mx_geti t24 d24_6 rfl fl1_62 h0) <|
  (mx_cge t24 d24_9 (tgt := 27) (by decide))
theorem b24_12 {d : Nat} {S : mm_S} {a0 : Nat} {x1 : Int32} {x2 : Int32} (h0 : mm_obj S a0 1 = true) (h1 : (mm_R S a0 4).isSome = true) (h2 : mm_inb x2 (mm_N S (mm_rg S a0 4)) = true) (h3 : mm_arr S (mm_rg S a0 4) 13 = true) : mm_ex d 24 12 [.ref a0, .int x1, .int x2] [] S =
    mm_ex d 24 4 [.ref a0, .int (x1 + (mm_M S (mm_rg S a0 4) (x2).toNatClampNeg)), .int (x2 + nI 1)] [] S :=
  Eq.trans (mx_iload_n t24 d24_12 (x := x1) rfl) <|
  Eq.trans (mx_aload_n t24 d24_13 (x := a0) rfl) <|
  Eq.trans (mx_getR t24 d24_14 rfl fl1_27 h0 h1) <|
  Eq.trans (mx_iload_n t24 d24_17 (x := x2) rfl) <|
  Eq.trans (mx_iald t24 d24_18 h3 h2) <|
  Eq.trans (mx_iadd t24 d24_19) <|
  Eq.trans (mx_istore_n t24 d24_20 (ls' := [.ref a0, .int (x1 + (mm_M S (mm_rg S a0 4) (x2).toNatClampNeg)), .int x2]) rfl rfl) <|
  Eq.trans (mx_iinc t24 d24_21 (x := x2) (v := nI 1) (ls' := [.ref a0, .int (x1 + (mm_M S (mm_rg S a0 4) (x2).toNatClampNeg)), .int (x2 + nI 1)]) rfl rfl rfl rfl) <|
  (mx_goto t24 d24_24 (tgt := 4) (by decide))
theorem b24_27 {d : Nat} {S : mm_S} {a0 : Nat} {x1 : Int32} {x2 : Int32} : mm_ex d 24 27 [.ref a0, .int x1, .int x2] [] S =
    some (some (.int x1), S) :=
  Eq.trans (mx_iload_n t24 d24_27 (x := x1) rfl) <|
  (mx_iret t24 d24_28 (ty := .int) rfl rfl (fun h => nomatch h))
theorem e24 {d : Nat} {S : mm_S} {a0 : Nat} : mm_cl d 24 [.ref a0] S = mm_ex d 24 0 [.ref a0, .null, .null] [] S := mm_cl_eq t24 (Nat.le_of_ble_eq_true rfl) rfl
