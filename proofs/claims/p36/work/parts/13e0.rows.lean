/-! X6_init -/
theorem d47_0 : decode prog_8_method_1_code 0 = .ok (.aload_n 0, 1) := by decide +kernel
theorem d47_1 : decode prog_8_method_1_code 1 = .ok (.invokespecial 1, 3) := by decide +kernel
theorem d47_4 : decode prog_8_method_1_code 4 = .ok (.aload_n 0, 1) := by decide +kernel
theorem d47_5 : decode prog_8_method_1_code 5 = .ok (.bipush 10, 2) := by decide +kernel
theorem d47_7 : decode prog_8_method_1_code 7 = .ok (.newarray .int, 2) := by decide +kernel
theorem d47_9 : decode prog_8_method_1_code 9 = .ok (.putfield 9, 3) := by decide +kernel
theorem d47_12 : decode prog_8_method_1_code 12 = .ok (.aload_n 0, 1) := by decide +kernel
theorem d47_13 : decode prog_8_method_1_code 13 = .ok (.bipush 10, 2) := by decide +kernel
theorem d47_15 : decode prog_8_method_1_code 15 = .ok (.newarray .int, 2) := by decide +kernel
theorem d47_17 : decode prog_8_method_1_code 17 = .ok (.putfield 13, 3) := by decide +kernel
theorem d47_20 : decode prog_8_method_1_code 20 = .ok (.aload_n 0, 1) := by decide +kernel
theorem d47_21 : decode prog_8_method_1_code 21 = .ok (.bipush 10, 2) := by decide +kernel
theorem d47_23 : decode prog_8_method_1_code 23 = .ok (.newarray .int, 2) := by decide +kernel
theorem d47_25 : decode prog_8_method_1_code 25 = .ok (.putfield 16, 3) := by decide +kernel
theorem d47_28 : decode prog_8_method_1_code 28 = .ok (.aload_n 0, 1) := by decide +kernel
theorem d47_29 : decode prog_8_method_1_code 29 = .ok (.bipush 100, 2) := by decide +kernel
theorem d47_31 : decode prog_8_method_1_code 31 = .ok (.newarray .int, 2) := by decide +kernel
theorem d47_33 : decode prog_8_method_1_code 33 = .ok (.putfield 21, 3) := by decide +kernel
theorem d47_36 : decode prog_8_method_1_code 36 = .ok (.aload_n 0, 1) := by decide +kernel
theorem d47_37 : decode prog_8_method_1_code 37 = .ok (.invokevirtual 24, 3) := by decide +kernel
theorem d47_40 : decode prog_8_method_1_code 40 = .ok (.return_, 1) := by decide +kernel
theorem b47_0 {d : Nat} {S : mm_S} {a0 : Nat} (h0 : (!decide (nI 10 < 0) && decide ((nI 10).toNatClampNeg ≤ 1000) && decide (mm_n S < 1000000)) = true) : mm_ex (d + 1) 47 0 [.ref a0] [] S =
    mm_ex (d + 1) 47 9 [.ref a0] [.ref (mm_n S), .ref a0] (mm_nw S 13 (nI 10).toNatClampNeg) :=
  Eq.trans (mx_aload_n t47 d47_0 (x := a0) rfl) <|
  Eq.trans (mx_oinit t47 d47_1 oi6_1 (Nat.le_of_ble_eq_true rfl)) <|
  Eq.trans (mx_aload_n t47 d47_4 (x := a0) rfl) <|
  Eq.trans (mx_bipush t47 d47_5 (v := nI 10) rfl) <|
  (mx_newi t47 d47_7 h0)
theorem b47_9 {d : Nat} {S : mm_S} {a0 : Nat} {p0 : Nat} {p1 : Nat} (h0 : mm_obj S p1 6 = true) (h1 : p0 < mm_n S) : mm_ex d 47 9 [.ref a0] [.ref p0, .ref p1] S =
    mm_ex d 47 15 [.ref a0] [.int (nI 10), .ref a0] (mm_uR S p1 4 (some p0)) :=
  Eq.trans (mx_putr2 t47 d47_9 fl6_9 rfl h0 h1) <|
  Eq.trans (mx_aload_n t47 d47_12 (x := a0) rfl) <|
  (mx_bipush t47 d47_13 (v := nI 10) rfl)
theorem b47_15 {d : Nat} {S : mm_S} {a0 : Nat} {p0 : Int32} {p1 : Nat} (h0 : (!decide (p0 < 0) && decide ((p0).toNatClampNeg ≤ 1000) && decide (mm_n S < 1000000)) = true) : mm_ex d 47 15 [.ref a0] [.int p0, .ref p1] S =
    mm_ex d 47 17 [.ref a0] [.ref (mm_n S), .ref p1] (mm_nw S 13 (p0).toNatClampNeg) :=
  (mx_newi t47 d47_15 h0)
theorem b47_17 {d : Nat} {S : mm_S} {a0 : Nat} {p0 : Nat} {p1 : Nat} (h0 : mm_obj S p1 6 = true) (h1 : p0 < mm_n S) : mm_ex d 47 17 [.ref a0] [.ref p0, .ref p1] S =
    mm_ex d 47 23 [.ref a0] [.int (nI 10), .ref a0] (mm_uR S p1 5 (some p0)) :=
  Eq.trans (mx_putr2 t47 d47_17 fl6_13 rfl h0 h1) <|
  Eq.trans (mx_aload_n t47 d47_20 (x := a0) rfl) <|
  (mx_bipush t47 d47_21 (v := nI 10) rfl)
theorem b47_23 {d : Nat} {S : mm_S} {a0 : Nat} {p0 : Int32} {p1 : Nat} (h0 : (!decide (p0 < 0) && decide ((p0).toNatClampNeg ≤ 1000) && decide (mm_n S < 1000000)) = true) : mm_ex d 47 23 [.ref a0] [.int p0, .ref p1] S =
    mm_ex d 47 25 [.ref a0] [.ref (mm_n S), .ref p1] (mm_nw S 13 (p0).toNatClampNeg) :=
  (mx_newi t47 d47_23 h0)
theorem b47_25 {d : Nat} {S : mm_S} {a0 : Nat} {p0 : Nat} {p1 : Nat} (h0 : mm_obj S p1 6 = true) (h1 : p0 < mm_n S) : mm_ex d 47 25 [.ref a0] [.ref p0, .ref p1] S =
    mm_ex d 47 31 [.ref a0] [.int (nI 100), .ref a0] (mm_uR S p1 6 (some p0)) :=
  Eq.trans (mx_putr2 t47 d47_25 fl6_16 rfl h0 h1) <|
  Eq.trans (mx_aload_n t47 d47_28 (x := a0) rfl) <|
  (mx_bipush t47 d47_29 (v := nI 100) rfl)
theorem b47_31 {d : Nat} {S : mm_S} {a0 : Nat} {p0 : Int32} {p1 : Nat} (h0 : (!decide (p0 < 0) && decide ((p0).toNatClampNeg ≤ 1000) && decide (mm_n S < 1000000)) = true) : mm_ex d 47 31 [.ref a0] [.int p0, .ref p1] S =
    mm_ex d 47 33 [.ref a0] [.ref (mm_n S), .ref p1] (mm_nw S 13 (p0).toNatClampNeg) :=
  (mx_newi t47 d47_31 h0)
theorem b47_33 {d : Nat} {S : mm_S} {a0 : Nat} {p0 : Nat} {p1 : Nat} (h0 : mm_obj S p1 6 = true) (h1 : p0 < mm_n S) (h2 : mm_rk S a0 = 6) : mm_ex (d + 1) 47 33 [.ref a0] [.ref p0, .ref p1] S =
    mm_bd (mm_cl d 48 [.ref a0] (mm_uR S p1 7 (some p0))) (fun v S2 => mm_ex (d + 1) 47 40 [.ref a0] (v.toList ++ []) S2) :=
  Eq.trans (mx_putr2 t47 d47_33 fl6_21 rfl h0 h1) <|
  Eq.trans (mx_aload_n t47 d47_36 (x := a0) rfl) <|
  (mx_virt (st := []) (k := 6) t47 [] d47_37 vt6_24 rfl rfl (Nat.le_of_ble_eq_true rfl) (Nat.le_of_ble_eq_true rfl) h2)
theorem b47_40 {d : Nat} {S : mm_S} {a0 : Nat} : mm_ex d 47 40 [.ref a0] [] S =
    some (none, S) :=
  (mx_vret t47 d47_40 rfl)
theorem e47 {d : Nat} {S : mm_S} {a0 : Nat} : mm_cl d 47 [.ref a0] S = mm_ex d 47 0 [.ref a0] [] S := mm_cl_eq t47 (Nat.le_of_ble_eq_true rfl) rfl
/-! X6_clear -/
theorem d48_0 : decode prog_8_method_2_code 0 = .ok (.aload_n 0, 1) := by decide +kernel
theorem d48_1 : decode prog_8_method_2_code 1 = .ok (.iconst 0, 1) := by decide +kernel
theorem d48_2 : decode prog_8_method_2_code 2 = .ok (.putfield 27, 3) := by decide +kernel
theorem d48_5 : decode prog_8_method_2_code 5 = .ok (.aload_n 0, 1) := by decide +kernel
theorem d48_6 : decode prog_8_method_2_code 6 = .ok (.iconst 0, 1) := by decide +kernel
theorem d48_7 : decode prog_8_method_2_code 7 = .ok (.putfield 31, 3) := by decide +kernel
theorem d48_10 : decode prog_8_method_2_code 10 = .ok (.aload_n 0, 1) := by decide +kernel
theorem d48_11 : decode prog_8_method_2_code 11 = .ok (.iconst 1, 1) := by decide +kernel
theorem d48_12 : decode prog_8_method_2_code 12 = .ok (.putfield 34, 3) := by decide +kernel
theorem d48_15 : decode prog_8_method_2_code 15 = .ok (.aload_n 0, 1) := by decide +kernel
theorem d48_16 : decode prog_8_method_2_code 16 = .ok (.iconst 1, 1) := by decide +kernel
theorem d48_17 : decode prog_8_method_2_code 17 = .ok (.putfield 37, 3) := by decide +kernel
theorem d48_20 : decode prog_8_method_2_code 20 = .ok (.aload_n 0, 1) := by decide +kernel
theorem d48_21 : decode prog_8_method_2_code 21 = .ok (.iconst 1, 1) := by decide +kernel
theorem d48_22 : decode prog_8_method_2_code 22 = .ok (.putfield 40, 3) := by decide +kernel
theorem d48_25 : decode prog_8_method_2_code 25 = .ok (.aload_n 0, 1) := by decide +kernel
theorem d48_26 : decode prog_8_method_2_code 26 = .ok (.iconst 0, 1) := by decide +kernel
theorem d48_27 : decode prog_8_method_2_code 27 = .ok (.putfield 43, 3) := by decide +kernel
theorem d48_30 : decode prog_8_method_2_code 30 = .ok (.return_, 1) := by decide +kernel
theorem b48_0 {d : Nat} {S : mm_S} {a0 : Nat} (h0 : mm_obj S a0 6 = true) : mm_ex d 48 0 [.ref a0] [] S =
    some (none, (mm_uM (mm_uM (mm_uM (mm_uM (mm_uM (mm_uM S a0 8 (nI 0)) a0 9 (nI 0)) a0 0 (nI 1)) a0 1 (nI 1)) a0 2 (nI 1)) a0 3 (nI 0))) :=
  Eq.trans (mx_aload_n t48 d48_0 (x := a0) rfl) <|
  Eq.trans (mx_iconst t48 d48_1 (v := nI 0) rfl) <|
  Eq.trans (mx_puti2 t48 d48_2 fl6_27 rfl h0) <|
  Eq.trans (mx_aload_n t48 d48_5 (x := a0) rfl) <|
  Eq.trans (mx_iconst t48 d48_6 (v := nI 0) rfl) <|
  Eq.trans (mx_puti2 t48 d48_7 fl6_31 rfl h0) <|
  Eq.trans (mx_aload_n t48 d48_10 (x := a0) rfl) <|
  Eq.trans (mx_iconst t48 d48_11 (v := nI 1) rfl) <|
  Eq.trans (mx_puti2 t48 d48_12 fl6_34 rfl h0) <|
  Eq.trans (mx_aload_n t48 d48_15 (x := a0) rfl) <|
  Eq.trans (mx_iconst t48 d48_16 (v := nI 1) rfl) <|
  Eq.trans (mx_puti2 t48 d48_17 fl6_37 rfl h0) <|
  Eq.trans (mx_aload_n t48 d48_20 (x := a0) rfl) <|
  Eq.trans (mx_iconst t48 d48_21 (v := nI 1) rfl) <|
  Eq.trans (mx_puti2 t48 d48_22 fl6_40 rfl h0) <|
  Eq.trans (mx_aload_n t48 d48_25 (x := a0) rfl) <|
  Eq.trans (mx_iconst t48 d48_26 (v := nI 0) rfl) <|
  Eq.trans (mx_puti2 t48 d48_27 fl6_43 rfl h0) <|
  (mx_vret t48 d48_30 rfl)
theorem e48 {d : Nat} {S : mm_S} {a0 : Nat} : mm_cl d 48 [.ref a0] S = mm_ex d 48 0 [.ref a0] [] S := mm_cl_eq t48 (Nat.le_of_ble_eq_true rfl) rfl
/-! X6_putCode -/
theorem d49_0 : decode prog_8_method_3_code 0 = .ok (.aload_n 0, 1) := by decide +kernel
theorem d49_1 : decode prog_8_method_3_code 1 = .ok (.getfield 31, 3) := by decide +kernel
theorem d49_4 : decode prog_8_method_3_code 4 = .ok (.aload_n 0, 1) := by decide +kernel
theorem d49_5 : decode prog_8_method_3_code 5 = .ok (.getfield 21, 3) := by decide +kernel
theorem d49_8 : decode prog_8_method_3_code 8 = .ok (.arraylength, 1) := by decide +kernel
theorem d49_9 : decode prog_8_method_3_code 9 = .ok (.if_icmp .ge 23, 3) := by decide +kernel
theorem d49_12 : decode prog_8_method_3_code 12 = .ok (.aload_n 0, 1) := by decide +kernel
theorem d49_13 : decode prog_8_method_3_code 13 = .ok (.getfield 21, 3) := by decide +kernel
theorem d49_16 : decode prog_8_method_3_code 16 = .ok (.aload_n 0, 1) := by decide +kernel
theorem d49_17 : decode prog_8_method_3_code 17 = .ok (.getfield 31, 3) := by decide +kernel
theorem d49_20 : decode prog_8_method_3_code 20 = .ok (.iload_n 1, 1) := by decide +kernel
theorem d49_21 : decode prog_8_method_3_code 21 = .ok (.iastore, 1) := by decide +kernel
theorem d49_22 : decode prog_8_method_3_code 22 = .ok (.aload_n 0, 1) := by decide +kernel
theorem d49_23 : decode prog_8_method_3_code 23 = .ok (.dup, 1) := by decide +kernel
theorem d49_24 : decode prog_8_method_3_code 24 = .ok (.getfield 31, 3) := by decide +kernel
theorem d49_27 : decode prog_8_method_3_code 27 = .ok (.iconst 1, 1) := by decide +kernel
theorem d49_28 : decode prog_8_method_3_code 28 = .ok (.iadd, 1) := by decide +kernel
theorem d49_29 : decode prog_8_method_3_code 29 = .ok (.putfield 31, 3) := by decide +kernel
theorem d49_32 : decode prog_8_method_3_code 32 = .ok (.return_, 1) := by decide +kernel
theorem b49_0 {d : Nat} {S : mm_S} {a0 : Nat} {x1 : Int32} (h0 : mm_obj S a0 6 = true) (h1 : (mm_R S a0 7).isSome = true) (h2 : mm_arr S (mm_rg S a0 7) 13 = true) : mm_ex d 49 0 [.ref a0, .int x1] [] S =
    if (nI (mm_N S (mm_rg S a0 7))) ≤ (mm_M S a0 9) then mm_ex d 49 32 [.ref a0, .int x1] [] S else mm_ex d 49 12 [.ref a0, .int x1] [] S :=
  Eq.trans (mx_aload_n t49 d49_0 (x := a0) rfl) <|
  Eq.trans (mx_geti t49 d49_1 rfl fl6_31 h0) <|
  Eq.trans (mx_aload_n t49 d49_4 (x := a0) rfl) <|
  Eq.trans (mx_getR t49 d49_5 rfl fl6_21 h0 h1) <|
  Eq.trans (mx_aleni t49 d49_8 h2) <|
  (mx_cge t49 d49_9 (tgt := 32) (by decide))
theorem b49_12 {d : Nat} {S : mm_S} {a0 : Nat} {x1 : Int32} (h0 : mm_obj S a0 6 = true) (h1 : (mm_R S a0 7).isSome = true) (h2 : mm_arr S (mm_rg S a0 7) 13 = true) (h3 : mm_inb (mm_M S a0 9) (mm_N S (mm_rg S a0 7)) = true) : mm_ex d 49 12 [.ref a0, .int x1] [] S =
    mm_ex d 49 24 [.ref a0, .int x1] [.ref a0, .ref a0] (mm_uM S (mm_rg S a0 7) (mm_M S a0 9).toNatClampNeg x1) :=
  Eq.trans (mx_aload_n t49 d49_12 (x := a0) rfl) <|
  Eq.trans (mx_getR t49 d49_13 rfl fl6_21 h0 h1) <|
  Eq.trans (mx_aload_n t49 d49_16 (x := a0) rfl) <|
  Eq.trans (mx_geti t49 d49_17 rfl fl6_31 h0) <|
  Eq.trans (mx_iload_n t49 d49_20 (x := x1) rfl) <|
  Eq.trans (mx_iast2 t49 d49_21 h2 h3) <|
  Eq.trans (mx_aload_n t49 d49_22 (x := a0) rfl) <|
  (mx_dupr t49 d49_23)
theorem b49_24 {d : Nat} {S : mm_S} {a0 : Nat} {x1 : Int32} {p0 : Nat} {p1 : Nat} (h0 : mm_obj S p0 6 = true) (h1 : mm_obj S p1 6 = true) : mm_ex d 49 24 [.ref a0, .int x1] [.ref p0, .ref p1] S =
    some (none, (mm_uM S p1 9 ((mm_M S p0 9) + (nI 1)))) :=
  Eq.trans (mx_geti t49 d49_24 rfl fl6_31 h0) <|
  Eq.trans (mx_iconst t49 d49_27 (v := nI 1) rfl) <|
  Eq.trans (mx_iadd t49 d49_28) <|
  Eq.trans (mx_puti2 t49 d49_29 fl6_31 rfl h1) <|
  (mx_vret t49 d49_32 rfl)
theorem b49_32 {d : Nat} {S : mm_S} {a0 : Nat} {x1 : Int32} : mm_ex d 49 32 [.ref a0, .int x1] [] S =
    some (none, S) :=
  (mx_vret t49 d49_32 rfl)
theorem e49 {d : Nat} {S : mm_S} {a0 : Nat} {x1 : Int32} : mm_cl d 49 [.ref a0, .int x1] S = mm_ex d 49 0 [.ref a0, .int x1] [] S := mm_cl_eq t49 (Nat.le_of_ble_eq_true rfl) rfl
/-! X6_codeOf -/
theorem d50_0 : decode prog_8_method_4_code 0 = .ok (.iload_n 0, 1) := by decide +kernel
theorem d50_1 : decode prog_8_method_4_code 1 = .ok (.iconst 3, 1) := by decide +kernel
theorem d50_2 : decode prog_8_method_4_code 2 = .ok (.imul, 1) := by decide +kernel
theorem d50_3 : decode prog_8_method_4_code 3 = .ok (.iload_n 1, 1) := by decide +kernel
theorem d50_4 : decode prog_8_method_4_code 4 = .ok (.iadd, 1) := by decide +kernel
theorem d50_5 : decode prog_8_method_4_code 5 = .ok (.bipush 100, 2) := by decide +kernel
theorem d50_7 : decode prog_8_method_4_code 7 = .ok (.imul, 1) := by decide +kernel
theorem d50_8 : decode prog_8_method_4_code 8 = .ok (.iload_n 2, 1) := by decide +kernel
theorem d50_9 : decode prog_8_method_4_code 9 = .ok (.iadd, 1) := by decide +kernel
theorem d50_10 : decode prog_8_method_4_code 10 = .ok (.ireturn, 1) := by decide +kernel
theorem b50_0 {d : Nat} {S : mm_S} {x0 : Int32} {x1 : Int32} {x2 : Int32} : mm_ex d 50 0 [.int x0, .int x1, .int x2] [] S =
    some (some (.int ((((x0 * (nI 3)) + x1) * (nI 100)) + x2)), S) :=
  Eq.trans (mx_iload_n t50 d50_0 (x := x0) rfl) <|
  Eq.trans (mx_iconst t50 d50_1 (v := nI 3) rfl) <|
  Eq.trans (mx_imul t50 d50_2) <|
  Eq.trans (mx_iload_n t50 d50_3 (x := x1) rfl) <|
  Eq.trans (mx_iadd t50 d50_4) <|
  Eq.trans (mx_bipush t50 d50_5 (v := nI 100) rfl) <|
  Eq.trans (mx_imul t50 d50_7) <|
  Eq.trans (mx_iload_n t50 d50_8 (x := x2) rfl) <|
  Eq.trans (mx_iadd t50 d50_9) <|
  (mx_iret t50 d50_10 (ty := .int) rfl rfl (fun h => nomatch h))
theorem e50 {d : Nat} {S : mm_S} {x0 : Int32} {x1 : Int32} {x2 : Int32} : mm_cl d 50 [.int x0, .int x1, .int x2] S = mm_ex d 50 0 [.int x0, .int x1, .int x2] [] S := mm_cl_eq t50 (Nat.le_of_ble_eq_true rfl) rfl
/-! X6_putClause -/
theorem dd51_0 : (decode prog_8_method_5_code 0 = .ok (.aload_n 0, 1)) ∧ (decode prog_8_method_5_code 1 = .ok (.getfield 27, 3)) ∧ (decode prog_8_method_5_code 4 = .ok (.bipush 10, 2)) ∧ (decode prog_8_method_5_code 6 = .ok (.if_icmp .ge 46, 3)) ∧ (decode prog_8_method_5_code 9 = .ok (.aload_n 0, 1)) ∧ (decode prog_8_method_5_code 10 = .ok (.getfield 9, 3)) ∧ (decode prog_8_method_5_code 13 = .ok (.aload_n 0, 1)) ∧ (decode prog_8_method_5_code 14 = .ok (.getfield 27, 3)) ∧ (decode prog_8_method_5_code 17 = .ok (.iload_n 1, 1)) ∧ (decode prog_8_method_5_code 18 = .ok (.iastore, 1)) ∧ (decode prog_8_method_5_code 19 = .ok (.aload_n 0, 1)) ∧ (decode prog_8_method_5_code 20 = .ok (.getfield 13, 3)) ∧ (decode prog_8_method_5_code 23 = .ok (.aload_n 0, 1)) ∧ (decode prog_8_method_5_code 24 = .ok (.getfield 27, 3)) ∧ (decode prog_8_method_5_code 27 = .ok (.iload_n 2, 1)) ∧ (decode prog_8_method_5_code 28 = .ok (.iastore, 1)) := by decide +kernel
theorem d51_0 : decode prog_8_method_5_code 0 = .ok (.aload_n 0, 1) := dd51_0.1
theorem d51_1 : decode prog_8_method_5_code 1 = .ok (.getfield 27, 3) := dd51_0.2.1
theorem d51_4 : decode prog_8_method_5_code 4 = .ok (.bipush 10, 2) := dd51_0.2.2.1
theorem d51_6 : decode prog_8_method_5_code 6 = .ok (.if_icmp .ge 46, 3) := dd51_0.2.2.2.1
theorem d51_9 : decode prog_8_method_5_code 9 = .ok (.aload_n 0, 1) := dd51_0.2.2.2.2.1
theorem d51_10 : decode prog_8_method_5_code 10 = .ok (.getfield 9, 3) := dd51_0.2.2.2.2.2.1
theorem d51_13 : decode prog_8_method_5_code 13 = .ok (.aload_n 0, 1) := dd51_0.2.2.2.2.2.2.1
theorem d51_14 : decode prog_8_method_5_code 14 = .ok (.getfield 27, 3) := dd51_0.2.2.2.2.2.2.2.1
theorem d51_17 : decode prog_8_method_5_code 17 = .ok (.iload_n 1, 1) := dd51_0.2.2.2.2.2.2.2.2.1
theorem d51_18 : decode prog_8_method_5_code 18 = .ok (.iastore, 1) := dd51_0.2.2.2.2.2.2.2.2.2.1
theorem d51_19 : decode prog_8_method_5_code 19 = .ok (.aload_n 0, 1) := dd51_0.2.2.2.2.2.2.2.2.2.2.1
theorem d51_20 : decode prog_8_method_5_code 20 = .ok (.getfield 13, 3) := dd51_0.2.2.2.2.2.2.2.2.2.2.2.1
theorem d51_23 : decode prog_8_method_5_code 23 = .ok (.aload_n 0, 1) := dd51_0.2.2.2.2.2.2.2.2.2.2.2.2.1
theorem d51_24 : decode prog_8_method_5_code 24 = .ok (.getfield 27, 3) := dd51_0.2.2.2.2.2.2.2.2.2.2.2.2.2.1
theorem d51_27 : decode prog_8_method_5_code 27 = .ok (.iload_n 2, 1) := dd51_0.2.2.2.2.2.2.2.2.2.2.2.2.2.2.1
theorem d51_28 : decode prog_8_method_5_code 28 = .ok (.iastore, 1) := dd51_0.2.2.2.2.2.2.2.2.2.2.2.2.2.2.2
theorem dd51_29 : (decode prog_8_method_5_code 29 = .ok (.aload_n 0, 1)) ∧ (decode prog_8_method_5_code 30 = .ok (.getfield 16, 3)) ∧ (decode prog_8_method_5_code 33 = .ok (.aload_n 0, 1)) ∧ (decode prog_8_method_5_code 34 = .ok (.getfield 27, 3)) ∧ (decode prog_8_method_5_code 37 = .ok (.aload_n 0, 1)) ∧ (decode prog_8_method_5_code 38 = .ok (.getfield 31, 3)) ∧ (decode prog_8_method_5_code 41 = .ok (.iastore, 1)) ∧ (decode prog_8_method_5_code 42 = .ok (.aload_n 0, 1)) ∧ (decode prog_8_method_5_code 43 = .ok (.dup, 1)) ∧ (decode prog_8_method_5_code 44 = .ok (.getfield 27, 3)) ∧ (decode prog_8_method_5_code 47 = .ok (.iconst 1, 1)) ∧ (decode prog_8_method_5_code 48 = .ok (.iadd, 1)) ∧ (decode prog_8_method_5_code 49 = .ok (.putfield 27, 3)) ∧ (decode prog_8_method_5_code 52 = .ok (.return_, 1)) := by decide +kernel
theorem d51_29 : decode prog_8_method_5_code 29 = .ok (.aload_n 0, 1) := dd51_29.1
theorem d51_30 : decode prog_8_method_5_code 30 = .ok (.getfield 16, 3) := dd51_29.2.1
theorem d51_33 : decode prog_8_method_5_code 33 = .ok (.aload_n 0, 1) := dd51_29.2.2.1
theorem d51_34 : decode prog_8_method_5_code 34 = .ok (.getfield 27, 3) := dd51_29.2.2.2.1
theorem d51_37 : decode prog_8_method_5_code 37 = .ok (.aload_n 0, 1) := dd51_29.2.2.2.2.1
theorem d51_38 : decode prog_8_method_5_code 38 = .ok (.getfield 31, 3) := dd51_29.2.2.2.2.2.1
theorem d51_41 : decode prog_8_method_5_code 41 = .ok (.iastore, 1) := dd51_29.2.2.2.2.2.2.1
theorem d51_42 : decode prog_8_method_5_code 42 = .ok (.aload_n 0, 1) := dd51_29.2.2.2.2.2.2.2.1
theorem d51_43 : decode prog_8_method_5_code 43 = .ok (.dup, 1) := dd51_29.2.2.2.2.2.2.2.2.1
theorem d51_44 : decode prog_8_method_5_code 44 = .ok (.getfield 27, 3) := dd51_29.2.2.2.2.2.2.2.2.2.1
theorem d51_47 : decode prog_8_method_5_code 47 = .ok (.iconst 1, 1) := dd51_29.2.2.2.2.2.2.2.2.2.2.1
theorem d51_48 : decode prog_8_method_5_code 48 = .ok (.iadd, 1) := dd51_29.2.2.2.2.2.2.2.2.2.2.2.1
theorem d51_49 : decode prog_8_method_5_code 49 = .ok (.putfield 27, 3) := dd51_29.2.2.2.2.2.2.2.2.2.2.2.2.1
theorem d51_52 : decode prog_8_method_5_code 52 = .ok (.return_, 1) := dd51_29.2.2.2.2.2.2.2.2.2.2.2.2.2
theorem b51_0 {d : Nat} {S : mm_S} {a0 : Nat} {x1 : Int32} {x2 : Int32} (h0 : mm_obj S a0 6 = true) : mm_ex d 51 0 [.ref a0, .int x1, .int x2] [] S =
    if (nI 10) ≤ (mm_M S a0 8) then mm_ex d 51 52 [.ref a0, .int x1, .int x2] [] S else mm_ex d 51 9 [.ref a0, .int x1, .int x2] [] S :=
  Eq.trans (mx_aload_n t51 d51_0 (x := a0) rfl) <|
  Eq.trans (mx_geti t51 d51_1 rfl fl6_27 h0) <|
  Eq.trans (mx_bipush t51 d51_4 (v := nI 10) rfl) <|
  (mx_cge t51 d51_6 (tgt := 52) (by decide))
theorem b51_9 {d : Nat} {S : mm_S} {a0 : Nat} {x1 : Int32} {x2 : Int32} (h0 : mm_obj S a0 6 = true) (h1 : (mm_R S a0 4).isSome = true) (h2 : mm_arr S (mm_rg S a0 4) 13 = true) (h3 : mm_inb (mm_M S a0 8) (mm_N S (mm_rg S a0 4)) = true) (h4 : (mm_R S a0 5).isSome = true) : mm_ex d 51 9 [.ref a0, .int x1, .int x2] [] S =
    mm_ex d 51 24 [.ref a0, .int x1, .int x2] [.ref a0, .ref (mm_rg S a0 5)] (mm_uM S (mm_rg S a0 4) (mm_M S a0 8).toNatClampNeg x1) :=
  Eq.trans (mx_aload_n t51 d51_9 (x := a0) rfl) <|
  Eq.trans (mx_getR t51 d51_10 rfl fl6_9 h0 h1) <|
  Eq.trans (mx_aload_n t51 d51_13 (x := a0) rfl) <|
  Eq.trans (mx_geti t51 d51_14 rfl fl6_27 h0) <|
  Eq.trans (mx_iload_n t51 d51_17 (x := x1) rfl) <|
  Eq.trans (mx_iast2 t51 d51_18 h2 h3) <|
  Eq.trans (mx_aload_n t51 d51_19 (x := a0) rfl) <|
  Eq.trans (mx_getR t51 d51_20 rfl fl6_13 h0 h4) <|
  (mx_aload_n t51 d51_23 (x := a0) rfl)
theorem b51_24 {d : Nat} {S : mm_S} {a0 : Nat} {x1 : Int32} {x2 : Int32} {p0 : Nat} {p1 : Nat} (h0 : mm_obj S p0 6 = true) (h1 : mm_arr S p1 13 = true) (h2 : mm_inb (mm_M S p0 8) (mm_N S p1) = true) (h3 : mm_obj S a0 6 = true) (h4 : (mm_R S a0 6).isSome = true) : mm_ex d 51 24 [.ref a0, .int x1, .int x2] [.ref p0, .ref p1] S =
    mm_ex d 51 34 [.ref a0, .int x1, .int x2] [.ref a0, .ref (mm_rg S a0 6)] (mm_uM S p1 (mm_M S p0 8).toNatClampNeg x2) :=
  Eq.trans (mx_geti t51 d51_24 rfl fl6_27 h0) <|
  Eq.trans (mx_iload_n t51 d51_27 (x := x2) rfl) <|
  Eq.trans (mx_iast2 t51 d51_28 h1 h2) <|
  Eq.trans (mx_aload_n t51 d51_29 (x := a0) rfl) <|
  Eq.trans (mx_getR t51 d51_30 rfl fl6_16 h3 h4) <|
  (mx_aload_n t51 d51_33 (x := a0) rfl)
theorem b51_34 {d : Nat} {S : mm_S} {a0 : Nat} {x1 : Int32} {x2 : Int32} {p0 : Nat} {p1 : Nat} (h0 : mm_obj S p0 6 = true) (h1 : mm_obj S a0 6 = true) (h2 : mm_arr S p1 13 = true) (h3 : mm_inb (mm_M S p0 8) (mm_N S p1) = true) : mm_ex d 51 34 [.ref a0, .int x1, .int x2] [.ref p0, .ref p1] S =
    mm_ex d 51 44 [.ref a0, .int x1, .int x2] [.ref a0, .ref a0] (mm_uM S p1 (mm_M S p0 8).toNatClampNeg (mm_M S a0 9)) :=
  Eq.trans (mx_geti t51 d51_34 rfl fl6_27 h0) <|
  Eq.trans (mx_aload_n t51 d51_37 (x := a0) rfl) <|
  Eq.trans (mx_geti t51 d51_38 rfl fl6_31 h1) <|
  Eq.trans (mx_iast2 t51 d51_41 h2 h3) <|
  Eq.trans (mx_aload_n t51 d51_42 (x := a0) rfl) <|
  (mx_dupr t51 d51_43)
theorem b51_44 {d : Nat} {S : mm_S} {a0 : Nat} {x1 : Int32} {x2 : Int32} {p0 : Nat} {p1 : Nat} (h0 : mm_obj S p0 6 = true) (h1 : mm_obj S p1 6 = true) : mm_ex d 51 44 [.ref a0, .int x1, .int x2] [.ref p0, .ref p1] S =
    some (none, (mm_uM S p1 8 ((mm_M S p0 8) + (nI 1)))) :=
  Eq.trans (mx_geti t51 d51_44 rfl fl6_27 h0) <|
  Eq.trans (mx_iconst t51 d51_47 (v := nI 1) rfl) <|
  Eq.trans (mx_iadd t51 d51_48) <|
  Eq.trans (mx_puti2 t51 d51_49 fl6_27 rfl h1) <|
  (mx_vret t51 d51_52 rfl)
theorem b51_52 {d : Nat} {S : mm_S} {a0 : Nat} {x1 : Int32} {x2 : Int32} : mm_ex d 51 52 [.ref a0, .int x1, .int x2] [] S =
    some (none, S) :=
  (mx_vret t51 d51_52 rfl)
theorem e51 {d : Nat} {S : mm_S} {a0 : Nat} {x1 : Int32} {x2 : Int32} : mm_cl d 51 [.ref a0, .int x1, .int x2] S = mm_ex d 51 0 [.ref a0, .int x1, .int x2] [] S := mm_cl_eq t51 (Nat.le_of_ble_eq_true rfl) rfl
/-! X6_sumOf -/
theorem dd52_0 : (decode prog_8_method_6_code 0 = .ok (.iconst 0, 1)) ∧ (decode prog_8_method_6_code 1 = .ok (.istore_n 3, 1)) ∧ (decode prog_8_method_6_code 2 = .ok (.iconst 0, 1)) ∧ (decode prog_8_method_6_code 3 = .ok (.istore 4, 2)) ∧ (decode prog_8_method_6_code 5 = .ok (.iconst 0, 1)) ∧ (decode prog_8_method_6_code 6 = .ok (.istore 5, 2)) ∧ (decode prog_8_method_6_code 8 = .ok (.iload 5, 2)) ∧ (decode prog_8_method_6_code 10 = .ok (.aload_n 0, 1)) ∧ (decode prog_8_method_6_code 11 = .ok (.getfield 27, 3)) ∧ (decode prog_8_method_6_code 14 = .ok (.if_icmp .ge 56, 3)) ∧ (decode prog_8_method_6_code 17 = .ok (.aload_n 0, 1)) ∧ (decode prog_8_method_6_code 18 = .ok (.getfield 9, 3)) ∧ (decode prog_8_method_6_code 21 = .ok (.iload 5, 2)) ∧ (decode prog_8_method_6_code 23 = .ok (.iaload, 1)) ∧ (decode prog_8_method_6_code 24 = .ok (.iload_n 1, 1)) ∧ (decode prog_8_method_6_code 25 = .ok (.if_icmp .ne 30, 3)) := by decide +kernel
theorem d52_0 : decode prog_8_method_6_code 0 = .ok (.iconst 0, 1) := dd52_0.1
theorem d52_1 : decode prog_8_method_6_code 1 = .ok (.istore_n 3, 1) := dd52_0.2.1
theorem d52_2 : decode prog_8_method_6_code 2 = .ok (.iconst 0, 1) := dd52_0.2.2.1
theorem d52_3 : decode prog_8_method_6_code 3 = .ok (.istore 4, 2) := dd52_0.2.2.2.1
theorem d52_5 : decode prog_8_method_6_code 5 = .ok (.iconst 0, 1) := dd52_0.2.2.2.2.1
theorem d52_6 : decode prog_8_method_6_code 6 = .ok (.istore 5, 2) := dd52_0.2.2.2.2.2.1
theorem d52_8 : decode prog_8_method_6_code 8 = .ok (.iload 5, 2) := dd52_0.2.2.2.2.2.2.1
theorem d52_10 : decode prog_8_method_6_code 10 = .ok (.aload_n 0, 1) := dd52_0.2.2.2.2.2.2.2.1
theorem d52_11 : decode prog_8_method_6_code 11 = .ok (.getfield 27, 3) := dd52_0.2.2.2.2.2.2.2.2.1
theorem d52_14 : decode prog_8_method_6_code 14 = .ok (.if_icmp .ge 56, 3) := dd52_0.2.2.2.2.2.2.2.2.2.1
theorem d52_17 : decode prog_8_method_6_code 17 = .ok (.aload_n 0, 1) := dd52_0.2.2.2.2.2.2.2.2.2.2.1
theorem d52_18 : decode prog_8_method_6_code 18 = .ok (.getfield 9, 3) := dd52_0.2.2.2.2.2.2.2.2.2.2.2.1
theorem d52_21 : decode prog_8_method_6_code 21 = .ok (.iload 5, 2) := dd52_0.2.2.2.2.2.2.2.2.2.2.2.2.1
theorem d52_23 : decode prog_8_method_6_code 23 = .ok (.iaload, 1) := dd52_0.2.2.2.2.2.2.2.2.2.2.2.2.2.1
theorem d52_24 : decode prog_8_method_6_code 24 = .ok (.iload_n 1, 1) := dd52_0.2.2.2.2.2.2.2.2.2.2.2.2.2.2.1
theorem d52_25 : decode prog_8_method_6_code 25 = .ok (.if_icmp .ne 30, 3) := dd52_0.2.2.2.2.2.2.2.2.2.2.2.2.2.2.2
theorem dd52_28 : (decode prog_8_method_6_code 28 = .ok (.aload_n 0, 1)) ∧ (decode prog_8_method_6_code 29 = .ok (.iload 4, 2)) ∧ (decode prog_8_method_6_code 31 = .ok (.aload_n 0, 1)) ∧ (decode prog_8_method_6_code 32 = .ok (.getfield 16, 3)) ∧ (decode prog_8_method_6_code 35 = .ok (.iload 5, 2)) ∧ (decode prog_8_method_6_code 37 = .ok (.iaload, 1)) ∧ (decode prog_8_method_6_code 38 = .ok (.aload_n 2, 1)) ∧ (decode prog_8_method_6_code 39 = .ok (.invokevirtual 46, 3)) ∧ (decode prog_8_method_6_code 42 = .ok (.ifCond .eq 13, 3)) ∧ (decode prog_8_method_6_code 45 = .ok (.iload_n 3, 1)) ∧ (decode prog_8_method_6_code 46 = .ok (.aload_n 0, 1)) ∧ (decode prog_8_method_6_code 47 = .ok (.getfield 13, 3)) ∧ (decode prog_8_method_6_code 50 = .ok (.iload 5, 2)) ∧ (decode prog_8_method_6_code 52 = .ok (.iaload, 1)) ∧ (decode prog_8_method_6_code 53 = .ok (.iadd, 1)) ∧ (decode prog_8_method_6_code 54 = .ok (.istore_n 3, 1)) := by decide +kernel
theorem d52_28 : decode prog_8_method_6_code 28 = .ok (.aload_n 0, 1) := dd52_28.1
theorem d52_29 : decode prog_8_method_6_code 29 = .ok (.iload 4, 2) := dd52_28.2.1
theorem d52_31 : decode prog_8_method_6_code 31 = .ok (.aload_n 0, 1) := dd52_28.2.2.1
theorem d52_32 : decode prog_8_method_6_code 32 = .ok (.getfield 16, 3) := dd52_28.2.2.2.1
theorem d52_35 : decode prog_8_method_6_code 35 = .ok (.iload 5, 2) := dd52_28.2.2.2.2.1
theorem d52_37 : decode prog_8_method_6_code 37 = .ok (.iaload, 1) := dd52_28.2.2.2.2.2.1
theorem d52_38 : decode prog_8_method_6_code 38 = .ok (.aload_n 2, 1) := dd52_28.2.2.2.2.2.2.1
theorem d52_39 : decode prog_8_method_6_code 39 = .ok (.invokevirtual 46, 3) := dd52_28.2.2.2.2.2.2.2.1
theorem d52_42 : decode prog_8_method_6_code 42 = .ok (.ifCond .eq 13, 3) := dd52_28.2.2.2.2.2.2.2.2.1
theorem d52_45 : decode prog_8_method_6_code 45 = .ok (.iload_n 3, 1) := dd52_28.2.2.2.2.2.2.2.2.2.1
theorem d52_46 : decode prog_8_method_6_code 46 = .ok (.aload_n 0, 1) := dd52_28.2.2.2.2.2.2.2.2.2.2.1
theorem d52_47 : decode prog_8_method_6_code 47 = .ok (.getfield 13, 3) := dd52_28.2.2.2.2.2.2.2.2.2.2.2.1
theorem d52_50 : decode prog_8_method_6_code 50 = .ok (.iload 5, 2) := dd52_28.2.2.2.2.2.2.2.2.2.2.2.2.1
theorem d52_52 : decode prog_8_method_6_code 52 = .ok (.iaload, 1) := dd52_28.2.2.2.2.2.2.2.2.2.2.2.2.2.1
theorem d52_53 : decode prog_8_method_6_code 53 = .ok (.iadd, 1) := dd52_28.2.2.2.2.2.2.2.2.2.2.2.2.2.2.1
theorem d52_54 : decode prog_8_method_6_code 54 = .ok (.istore_n 3, 1) := dd52_28.2.2.2.2.2.2.2.2.2.2.2.2.2.2.2
theorem dd52_55 : (decode prog_8_method_6_code 55 = .ok (.aload_n 0, 1)) ∧ (decode prog_8_method_6_code 56 = .ok (.getfield 16, 3)) ∧ (decode prog_8_method_6_code 59 = .ok (.iload 5, 2)) ∧ (decode prog_8_method_6_code 61 = .ok (.iaload, 1)) ∧ (decode prog_8_method_6_code 62 = .ok (.istore 4, 2)) ∧ (decode prog_8_method_6_code 64 = .ok (.iinc 5 1, 3)) ∧ (decode prog_8_method_6_code 67 = .ok (.goto (-59), 3)) ∧ (decode prog_8_method_6_code 70 = .ok (.iload_n 3, 1)) ∧ (decode prog_8_method_6_code 71 = .ok (.ireturn, 1)) := by decide +kernel
theorem d52_55 : decode prog_8_method_6_code 55 = .ok (.aload_n 0, 1) := dd52_55.1
theorem d52_56 : decode prog_8_method_6_code 56 = .ok (.getfield 16, 3) := dd52_55.2.1
theorem d52_59 : decode prog_8_method_6_code 59 = .ok (.iload 5, 2) := dd52_55.2.2.1
theorem d52_61 : decode prog_8_method_6_code 61 = .ok (.iaload, 1) := dd52_55.2.2.2.1
theorem d52_62 : decode prog_8_method_6_code 62 = .ok (.istore 4, 2) := dd52_55.2.2.2.2.1
theorem d52_64 : decode prog_8_method_6_code 64 = .ok (.iinc 5 1, 3) := dd52_55.2.2.2.2.2.1
theorem d52_67 : decode prog_8_method_6_code 67 = .ok (.goto (-59), 3) := dd52_55.2.2.2.2.2.2.1
theorem d52_70 : decode prog_8_method_6_code 70 = .ok (.iload_n 3, 1) := dd52_55.2.2.2.2.2.2.2.1
theorem d52_71 : decode prog_8_method_6_code 71 = .ok (.ireturn, 1) := dd52_55.2.2.2.2.2.2.2.2
theorem b52_0 {d : Nat} {S : mm_S} {a0 : Nat} {x1 : Int32} {a2 : Nat} : mm_ex d 52 0 [.ref a0, .int x1, .ref a2, .null, .null, .null] [] S =
    mm_ex d 52 8 [.ref a0, .int x1, .ref a2, .int (nI 0), .int (nI 0), .int (nI 0)] [] S :=
  Eq.trans (mx_iconst t52 d52_0 (v := nI 0) rfl) <|
  Eq.trans (mx_istore_n t52 d52_1 (ls' := [.ref a0, .int x1, .ref a2, .int (nI 0), .null, .null]) rfl rfl) <|
  Eq.trans (mx_iconst t52 d52_2 (v := nI 0) rfl) <|
  Eq.trans (mx_istore t52 d52_3 (ls' := [.ref a0, .int x1, .ref a2, .int (nI 0), .int (nI 0), .null]) rfl rfl) <|
  Eq.trans (mx_iconst t52 d52_5 (v := nI 0) rfl) <|
  (mx_istore t52 d52_6 (ls' := [.ref a0, .int x1, .ref a2, .int (nI 0), .int (nI 0), .int (nI 0)]) rfl rfl)
theorem b52_8 {d : Nat} {S : mm_S} {a0 : Nat} {x1 : Int32} {a2 : Nat} {x3 : Int32} {x4 : Int32} {x5 : Int32} (h0 : mm_obj S a0 6 = true) : mm_ex d 52 8 [.ref a0, .int x1, .ref a2, .int x3, .int x4, .int x5] [] S =
    if (mm_M S a0 8) ≤ x5 then mm_ex d 52 70 [.ref a0, .int x1, .ref a2, .int x3, .int x4, .int x5] [] S else mm_ex d 52 17 [.ref a0, .int x1, .ref a2, .int x3, .int x4, .int x5] [] S :=
  Eq.trans (mx_iload t52 d52_8 (x := x5) rfl) <|
  Eq.trans (mx_aload_n t52 d52_10 (x := a0) rfl) <|
  Eq.trans (mx_geti t52 d52_11 rfl fl6_27 h0) <|
  (mx_cge t52 d52_14 (tgt := 70) (by decide))
theorem b52_17 {d : Nat} {S : mm_S} {a0 : Nat} {x1 : Int32} {a2 : Nat} {x3 : Int32} {x4 : Int32} {x5 : Int32} (h0 : mm_obj S a0 6 = true) (h1 : (mm_R S a0 4).isSome = true) (h2 : mm_inb x5 (mm_N S (mm_rg S a0 4)) = true) (h3 : mm_arr S (mm_rg S a0 4) 13 = true) : mm_ex d 52 17 [.ref a0, .int x1, .ref a2, .int x3, .int x4, .int x5] [] S =
    if (mm_M S (mm_rg S a0 4) (x5).toNatClampNeg) = x1 then mm_ex d 52 28 [.ref a0, .int x1, .ref a2, .int x3, .int x4, .int x5] [] S else mm_ex d 52 55 [.ref a0, .int x1, .ref a2, .int x3, .int x4, .int x5] [] S :=
  Eq.trans (mx_aload_n t52 d52_17 (x := a0) rfl) <|
  Eq.trans (mx_getR t52 d52_18 rfl fl6_9 h0 h1) <|
  Eq.trans (mx_iload t52 d52_21 (x := x5) rfl) <|
  Eq.trans (mx_iald t52 d52_23 h3 h2) <|
  Eq.trans (mx_iload_n t52 d52_24 (x := x1) rfl) <|
  (mx_cne t52 d52_25 (tgt := 55) (by decide))
theorem b52_28 {d : Nat} {S : mm_S} {a0 : Nat} {x1 : Int32} {a2 : Nat} {x3 : Int32} {x4 : Int32} {x5 : Int32} (h0 : mm_obj S a0 6 = true) (h1 : (mm_R S a0 6).isSome = true) (h2 : mm_inb x5 (mm_N S (mm_rg S a0 6)) = true) (h3 : mm_arr S (mm_rg S a0 6) 13 = true) (h4 : mm_rk S a0 = 6) : mm_ex (d + 1) 52 28 [.ref a0, .int x1, .ref a2, .int x3, .int x4, .int x5] [] S =
    mm_bd (mm_cl d 53 [.ref a0, .int x4, .int (mm_M S (mm_rg S a0 6) (x5).toNatClampNeg), .ref a2] S) (fun v S2 => mm_ex (d + 1) 52 42 [.ref a0, .int x1, .ref a2, .int x3, .int x4, .int x5] (v.toList ++ []) S2) :=
  Eq.trans (mx_aload_n t52 d52_28 (x := a0) rfl) <|
  Eq.trans (mx_iload t52 d52_29 (x := x4) rfl) <|
  Eq.trans (mx_aload_n t52 d52_31 (x := a0) rfl) <|
  Eq.trans (mx_getR t52 d52_32 rfl fl6_16 h0 h1) <|
  Eq.trans (mx_iload t52 d52_35 (x := x5) rfl) <|
  Eq.trans (mx_iald t52 d52_37 h3 h2) <|
  Eq.trans (mx_aload_n t52 d52_38 (x := a2) rfl) <|
  (mx_virt (st := []) (k := 6) t52 [.int x4, .int (mm_M S (mm_rg S a0 6) (x5).toNatClampNeg), .ref a2] d52_39 vt6_46 rfl rfl (Nat.le_of_ble_eq_true rfl) (Nat.le_of_ble_eq_true rfl) h4)
theorem b52_42 {d : Nat} {S : mm_S} {a0 : Nat} {x1 : Int32} {a2 : Nat} {x3 : Int32} {x4 : Int32} {x5 : Int32} {p0 : Int32} : mm_ex d 52 42 [.ref a0, .int x1, .ref a2, .int x3, .int x4, .int x5] [.int p0] S =
    if p0 = nI 0 then mm_ex d 52 55 [.ref a0, .int x1, .ref a2, .int x3, .int x4, .int x5] [] S else mm_ex d 52 45 [.ref a0, .int x1, .ref a2, .int x3, .int x4, .int x5] [] S :=
  (mx_ieq t52 d52_42 (tgt := 55) (by decide))
theorem b52_45 {d : Nat} {S : mm_S} {a0 : Nat} {x1 : Int32} {a2 : Nat} {x3 : Int32} {x4 : Int32} {x5 : Int32} (h0 : mm_obj S a0 6 = true) (h1 : (mm_R S a0 5).isSome = true) (h2 : mm_inb x5 (mm_N S (mm_rg S a0 5)) = true) (h3 : mm_arr S (mm_rg S a0 5) 13 = true) (h4 : (mm_R S a0 6).isSome = true) (h5 : mm_inb x5 (mm_N S (mm_rg S a0 6)) = true) (h6 : mm_arr S (mm_rg S a0 6) 13 = true) : mm_ex d 52 45 [.ref a0, .int x1, .ref a2, .int x3, .int x4, .int x5] [] S =
    mm_ex d 52 8 [.ref a0, .int x1, .ref a2, .int (x3 + (mm_M S (mm_rg S a0 5) (x5).toNatClampNeg)), .int (mm_M S (mm_rg S a0 6) (x5).toNatClampNeg), .int (x5 + nI 1)] [] S :=
  Eq.trans (mx_iload_n t52 d52_45 (x := x3) rfl) <|
  Eq.trans (mx_aload_n t52 d52_46 (x := a0) rfl) <|
  Eq.trans (mx_getR t52 d52_47 rfl fl6_13 h0 h1) <|
  Eq.trans (mx_iload t52 d52_50 (x := x5) rfl) <|
  Eq.trans (mx_iald t52 d52_52 h3 h2) <|
  Eq.trans (mx_iadd t52 d52_53) <|
  Eq.trans (mx_istore_n t52 d52_54 (ls' := [.ref a0, .int x1, .ref a2, .int (x3 + (mm_M S (mm_rg S a0 5) (x5).toNatClampNeg)), .int x4, .int x5]) rfl rfl) <|
  Eq.trans (mx_aload_n t52 d52_55 (x := a0) rfl) <|
  Eq.trans (mx_getR t52 d52_56 rfl fl6_16 h0 h4) <|
  Eq.trans (mx_iload t52 d52_59 (x := x5) rfl) <|
  Eq.trans (mx_iald t52 d52_61 h6 h5) <|
  Eq.trans (mx_istore t52 d52_62 (ls' := [.ref a0, .int x1, .ref a2, .int (x3 + (mm_M S (mm_rg S a0 5) (x5).toNatClampNeg)), .int (mm_M S (mm_rg S a0 6) (x5).toNatClampNeg), .int x5]) rfl rfl) <|
  Eq.trans (mx_iinc t52 d52_64 (x := x5) (v := nI 1) (ls' := [.ref a0, .int x1, .ref a2, .int (x3 + (mm_M S (mm_rg S a0 5) (x5).toNatClampNeg)), .int (mm_M S (mm_rg S a0 6) (x5).toNatClampNeg), .int (x5 + nI 1)]) rfl rfl rfl rfl) <|
  (mx_goto t52 d52_67 (tgt := 8) (by decide))
theorem b52_55 {d : Nat} {S : mm_S} {a0 : Nat} {x1 : Int32} {a2 : Nat} {x3 : Int32} {x4 : Int32} {x5 : Int32} (h0 : mm_obj S a0 6 = true) (h1 : (mm_R S a0 6).isSome = true) (h2 : mm_inb x5 (mm_N S (mm_rg S a0 6)) = true) (h3 : mm_arr S (mm_rg S a0 6) 13 = true) : mm_ex d 52 55 [.ref a0, .int x1, .ref a2, .int x3, .int x4, .int x5] [] S =
    mm_ex d 52 8 [.ref a0, .int x1, .ref a2, .int x3, .int (mm_M S (mm_rg S a0 6) (x5).toNatClampNeg), .int (x5 + nI 1)] [] S :=
  Eq.trans (mx_aload_n t52 d52_55 (x := a0) rfl) <|
  Eq.trans (mx_getR t52 d52_56 rfl fl6_16 h0 h1) <|
  Eq.trans (mx_iload t52 d52_59 (x := x5) rfl) <|
  Eq.trans (mx_iald t52 d52_61 h3 h2) <|
  Eq.trans (mx_istore t52 d52_62 (ls' := [.ref a0, .int x1, .ref a2, .int x3, .int (mm_M S (mm_rg S a0 6) (x5).toNatClampNeg), .int x5]) rfl rfl) <|
  Eq.trans (mx_iinc t52 d52_64 (x := x5) (v := nI 1) (ls' := [.ref a0, .int x1, .ref a2, .int x3, .int (mm_M S (mm_rg S a0 6) (x5).toNatClampNeg), .int (x5 + nI 1)]) rfl rfl rfl rfl) <|
  (mx_goto t52 d52_67 (tgt := 8) (by decide))
theorem b52_70 {d : Nat} {S : mm_S} {a0 : Nat} {x1 : Int32} {a2 : Nat} {x3 : Int32} {x4 : Int32} {x5 : Int32} : mm_ex d 52 70 [.ref a0, .int x1, .ref a2, .int x3, .int x4, .int x5] [] S =
    some (some (.int x3), S) :=
  Eq.trans (mx_iload_n t52 d52_70 (x := x3) rfl) <|
  (mx_iret t52 d52_71 (ty := .int) rfl rfl (fun h => nomatch h))
theorem e52 {d : Nat} {S : mm_S} {a0 : Nat} {x1 : Int32} {a2 : Nat} : mm_cl d 52 [.ref a0, .int x1, .ref a2] S = mm_ex d 52 0 [.ref a0, .int x1, .ref a2, .null, .null, .null] [] S := mm_cl_eq t52 (Nat.le_of_ble_eq_true rfl) rfl
/-! X6_holds -/
theorem dd53_0 : (decode prog_8_method_7_code 0 = .ok (.iconst 0, 1)) ∧ (decode prog_8_method_7_code 1 = .ok (.istore 4, 2)) ∧ (decode prog_8_method_7_code 3 = .ok (.iload_n 1, 1)) ∧ (decode prog_8_method_7_code 4 = .ok (.istore 5, 2)) ∧ (decode prog_8_method_7_code 6 = .ok (.iload 5, 2)) ∧ (decode prog_8_method_7_code 8 = .ok (.iload_n 2, 1)) ∧ (decode prog_8_method_7_code 9 = .ok (.if_icmp .ge 105, 3)) ∧ (decode prog_8_method_7_code 12 = .ok (.aload_n 0, 1)) ∧ (decode prog_8_method_7_code 13 = .ok (.getfield 21, 3)) ∧ (decode prog_8_method_7_code 16 = .ok (.iload 5, 2)) ∧ (decode prog_8_method_7_code 18 = .ok (.iaload, 1)) ∧ (decode prog_8_method_7_code 19 = .ok (.tableswitch 63 (-3) (-1) #[49, 34, 25], 25)) ∧ (decode prog_8_method_7_code 44 = .ok (.iload 4, 2)) ∧ (decode prog_8_method_7_code 46 = .ok (.iconst 1, 1)) ∧ (decode prog_8_method_7_code 47 = .ok (.ixor, 1)) ∧ (decode prog_8_method_7_code 48 = .ok (.istore 4, 2)) := by decide +kernel
theorem d53_0 : decode prog_8_method_7_code 0 = .ok (.iconst 0, 1) := dd53_0.1
theorem d53_1 : decode prog_8_method_7_code 1 = .ok (.istore 4, 2) := dd53_0.2.1
theorem d53_3 : decode prog_8_method_7_code 3 = .ok (.iload_n 1, 1) := dd53_0.2.2.1
theorem d53_4 : decode prog_8_method_7_code 4 = .ok (.istore 5, 2) := dd53_0.2.2.2.1
theorem d53_6 : decode prog_8_method_7_code 6 = .ok (.iload 5, 2) := dd53_0.2.2.2.2.1
theorem d53_8 : decode prog_8_method_7_code 8 = .ok (.iload_n 2, 1) := dd53_0.2.2.2.2.2.1
theorem d53_9 : decode prog_8_method_7_code 9 = .ok (.if_icmp .ge 105, 3) := dd53_0.2.2.2.2.2.2.1
theorem d53_12 : decode prog_8_method_7_code 12 = .ok (.aload_n 0, 1) := dd53_0.2.2.2.2.2.2.2.1
theorem d53_13 : decode prog_8_method_7_code 13 = .ok (.getfield 21, 3) := dd53_0.2.2.2.2.2.2.2.2.1
theorem d53_16 : decode prog_8_method_7_code 16 = .ok (.iload 5, 2) := dd53_0.2.2.2.2.2.2.2.2.2.1
theorem d53_18 : decode prog_8_method_7_code 18 = .ok (.iaload, 1) := dd53_0.2.2.2.2.2.2.2.2.2.2.1
theorem d53_19 : decode prog_8_method_7_code 19 = .ok (.tableswitch 63 (-3) (-1) #[49, 34, 25], 25) := dd53_0.2.2.2.2.2.2.2.2.2.2.2.1
theorem d53_44 : decode prog_8_method_7_code 44 = .ok (.iload 4, 2) := dd53_0.2.2.2.2.2.2.2.2.2.2.2.2.1
theorem d53_46 : decode prog_8_method_7_code 46 = .ok (.iconst 1, 1) := dd53_0.2.2.2.2.2.2.2.2.2.2.2.2.2.1
theorem d53_47 : decode prog_8_method_7_code 47 = .ok (.ixor, 1) := dd53_0.2.2.2.2.2.2.2.2.2.2.2.2.2.2.1
theorem d53_48 : decode prog_8_method_7_code 48 = .ok (.istore 4, 2) := dd53_0.2.2.2.2.2.2.2.2.2.2.2.2.2.2.2
theorem dd53_50 : (decode prog_8_method_7_code 50 = .ok (.goto 58, 3)) ∧ (decode prog_8_method_7_code 53 = .ok (.iload 4, 2)) ∧ (decode prog_8_method_7_code 55 = .ok (.iconst 1, 1)) ∧ (decode prog_8_method_7_code 56 = .ok (.ishr, 1)) ∧ (decode prog_8_method_7_code 57 = .ok (.iload 4, 2)) ∧ (decode prog_8_method_7_code 59 = .ok (.bipush (-2), 2)) ∧ (decode prog_8_method_7_code 61 = .ok (.ior, 1)) ∧ (decode prog_8_method_7_code 62 = .ok (.iand, 1)) ∧ (decode prog_8_method_7_code 63 = .ok (.istore 4, 2)) ∧ (decode prog_8_method_7_code 65 = .ok (.goto 43, 3)) ∧ (decode prog_8_method_7_code 68 = .ok (.iload 4, 2)) ∧ (decode prog_8_method_7_code 70 = .ok (.iconst 1, 1)) ∧ (decode prog_8_method_7_code 71 = .ok (.ishr, 1)) ∧ (decode prog_8_method_7_code 72 = .ok (.iload 4, 2)) ∧ (decode prog_8_method_7_code 74 = .ok (.iconst 1, 1)) ∧ (decode prog_8_method_7_code 75 = .ok (.iand, 1)) := by decide +kernel
theorem d53_50 : decode prog_8_method_7_code 50 = .ok (.goto 58, 3) := dd53_50.1
theorem d53_53 : decode prog_8_method_7_code 53 = .ok (.iload 4, 2) := dd53_50.2.1
theorem d53_55 : decode prog_8_method_7_code 55 = .ok (.iconst 1, 1) := dd53_50.2.2.1
theorem d53_56 : decode prog_8_method_7_code 56 = .ok (.ishr, 1) := dd53_50.2.2.2.1
theorem d53_57 : decode prog_8_method_7_code 57 = .ok (.iload 4, 2) := dd53_50.2.2.2.2.1
theorem d53_59 : decode prog_8_method_7_code 59 = .ok (.bipush (-2), 2) := dd53_50.2.2.2.2.2.1
theorem d53_61 : decode prog_8_method_7_code 61 = .ok (.ior, 1) := dd53_50.2.2.2.2.2.2.1
theorem d53_62 : decode prog_8_method_7_code 62 = .ok (.iand, 1) := dd53_50.2.2.2.2.2.2.2.1
theorem d53_63 : decode prog_8_method_7_code 63 = .ok (.istore 4, 2) := dd53_50.2.2.2.2.2.2.2.2.1
theorem d53_65 : decode prog_8_method_7_code 65 = .ok (.goto 43, 3) := dd53_50.2.2.2.2.2.2.2.2.2.1
theorem d53_68 : decode prog_8_method_7_code 68 = .ok (.iload 4, 2) := dd53_50.2.2.2.2.2.2.2.2.2.2.1
theorem d53_70 : decode prog_8_method_7_code 70 = .ok (.iconst 1, 1) := dd53_50.2.2.2.2.2.2.2.2.2.2.2.1
theorem d53_71 : decode prog_8_method_7_code 71 = .ok (.ishr, 1) := dd53_50.2.2.2.2.2.2.2.2.2.2.2.2.1
theorem d53_72 : decode prog_8_method_7_code 72 = .ok (.iload 4, 2) := dd53_50.2.2.2.2.2.2.2.2.2.2.2.2.2.1
theorem d53_74 : decode prog_8_method_7_code 74 = .ok (.iconst 1, 1) := dd53_50.2.2.2.2.2.2.2.2.2.2.2.2.2.2.1
theorem d53_75 : decode prog_8_method_7_code 75 = .ok (.iand, 1) := dd53_50.2.2.2.2.2.2.2.2.2.2.2.2.2.2.2
theorem dd53_76 : (decode prog_8_method_7_code 76 = .ok (.ior, 1)) ∧ (decode prog_8_method_7_code 77 = .ok (.istore 4, 2)) ∧ (decode prog_8_method_7_code 79 = .ok (.goto 29, 3)) ∧ (decode prog_8_method_7_code 82 = .ok (.iload 4, 2)) ∧ (decode prog_8_method_7_code 84 = .ok (.iconst 1, 1)) ∧ (decode prog_8_method_7_code 85 = .ok (.ishl, 1)) ∧ (decode prog_8_method_7_code 86 = .ok (.aload_n 0, 1)) ∧ (decode prog_8_method_7_code 87 = .ok (.getfield 21, 3)) ∧ (decode prog_8_method_7_code 90 = .ok (.iload 5, 2)) ∧ (decode prog_8_method_7_code 92 = .ok (.iaload, 1)) ∧ (decode prog_8_method_7_code 93 = .ok (.aload_n 3, 1)) ∧ (decode prog_8_method_7_code 94 = .ok (.invokestatic 50, 3)) ∧ (decode prog_8_method_7_code 97 = .ok (.ifCond .eq 7, 3)) ∧ (decode prog_8_method_7_code 100 = .ok (.iconst 1, 1)) ∧ (decode prog_8_method_7_code 101 = .ok (.goto 4, 3)) ∧ (decode prog_8_method_7_code 104 = .ok (.iconst 0, 1)) := by decide +kernel
theorem d53_76 : decode prog_8_method_7_code 76 = .ok (.ior, 1) := dd53_76.1
theorem d53_77 : decode prog_8_method_7_code 77 = .ok (.istore 4, 2) := dd53_76.2.1
theorem d53_79 : decode prog_8_method_7_code 79 = .ok (.goto 29, 3) := dd53_76.2.2.1
theorem d53_82 : decode prog_8_method_7_code 82 = .ok (.iload 4, 2) := dd53_76.2.2.2.1
theorem d53_84 : decode prog_8_method_7_code 84 = .ok (.iconst 1, 1) := dd53_76.2.2.2.2.1
theorem d53_85 : decode prog_8_method_7_code 85 = .ok (.ishl, 1) := dd53_76.2.2.2.2.2.1
theorem d53_86 : decode prog_8_method_7_code 86 = .ok (.aload_n 0, 1) := dd53_76.2.2.2.2.2.2.1
theorem d53_87 : decode prog_8_method_7_code 87 = .ok (.getfield 21, 3) := dd53_76.2.2.2.2.2.2.2.1
theorem d53_90 : decode prog_8_method_7_code 90 = .ok (.iload 5, 2) := dd53_76.2.2.2.2.2.2.2.2.1
theorem d53_92 : decode prog_8_method_7_code 92 = .ok (.iaload, 1) := dd53_76.2.2.2.2.2.2.2.2.2.1
theorem d53_93 : decode prog_8_method_7_code 93 = .ok (.aload_n 3, 1) := dd53_76.2.2.2.2.2.2.2.2.2.2.1
theorem d53_94 : decode prog_8_method_7_code 94 = .ok (.invokestatic 50, 3) := dd53_76.2.2.2.2.2.2.2.2.2.2.2.1
theorem d53_97 : decode prog_8_method_7_code 97 = .ok (.ifCond .eq 7, 3) := dd53_76.2.2.2.2.2.2.2.2.2.2.2.2.1
theorem d53_100 : decode prog_8_method_7_code 100 = .ok (.iconst 1, 1) := dd53_76.2.2.2.2.2.2.2.2.2.2.2.2.2.1
theorem d53_101 : decode prog_8_method_7_code 101 = .ok (.goto 4, 3) := dd53_76.2.2.2.2.2.2.2.2.2.2.2.2.2.2.1
theorem d53_104 : decode prog_8_method_7_code 104 = .ok (.iconst 0, 1) := dd53_76.2.2.2.2.2.2.2.2.2.2.2.2.2.2.2
theorem dd53_105 : (decode prog_8_method_7_code 105 = .ok (.ior, 1)) ∧ (decode prog_8_method_7_code 106 = .ok (.istore 4, 2)) ∧ (decode prog_8_method_7_code 108 = .ok (.iinc 5 1, 3)) ∧ (decode prog_8_method_7_code 111 = .ok (.goto (-105), 3)) ∧ (decode prog_8_method_7_code 114 = .ok (.iload 4, 2)) ∧ (decode prog_8_method_7_code 116 = .ok (.iconst 1, 1)) ∧ (decode prog_8_method_7_code 117 = .ok (.iand, 1)) ∧ (decode prog_8_method_7_code 118 = .ok (.iconst 1, 1)) ∧ (decode prog_8_method_7_code 119 = .ok (.if_icmp .ne 7, 3)) ∧ (decode prog_8_method_7_code 122 = .ok (.iconst 1, 1)) ∧ (decode prog_8_method_7_code 123 = .ok (.goto 4, 3)) ∧ (decode prog_8_method_7_code 126 = .ok (.iconst 0, 1)) ∧ (decode prog_8_method_7_code 127 = .ok (.ireturn, 1)) := by decide +kernel
theorem d53_105 : decode prog_8_method_7_code 105 = .ok (.ior, 1) := dd53_105.1
theorem d53_106 : decode prog_8_method_7_code 106 = .ok (.istore 4, 2) := dd53_105.2.1
theorem d53_108 : decode prog_8_method_7_code 108 = .ok (.iinc 5 1, 3) := dd53_105.2.2.1
theorem d53_111 : decode prog_8_method_7_code 111 = .ok (.goto (-105), 3) := dd53_105.2.2.2.1
theorem d53_114 : decode prog_8_method_7_code 114 = .ok (.iload 4, 2) := dd53_105.2.2.2.2.1
theorem d53_116 : decode prog_8_method_7_code 116 = .ok (.iconst 1, 1) := dd53_105.2.2.2.2.2.1
theorem d53_117 : decode prog_8_method_7_code 117 = .ok (.iand, 1) := dd53_105.2.2.2.2.2.2.1
theorem d53_118 : decode prog_8_method_7_code 118 = .ok (.iconst 1, 1) := dd53_105.2.2.2.2.2.2.2.1
theorem d53_119 : decode prog_8_method_7_code 119 = .ok (.if_icmp .ne 7, 3) := dd53_105.2.2.2.2.2.2.2.2.1
theorem d53_122 : decode prog_8_method_7_code 122 = .ok (.iconst 1, 1) := dd53_105.2.2.2.2.2.2.2.2.2.1
theorem d53_123 : decode prog_8_method_7_code 123 = .ok (.goto 4, 3) := dd53_105.2.2.2.2.2.2.2.2.2.2.1
theorem d53_126 : decode prog_8_method_7_code 126 = .ok (.iconst 0, 1) := dd53_105.2.2.2.2.2.2.2.2.2.2.2.1
theorem d53_127 : decode prog_8_method_7_code 127 = .ok (.ireturn, 1) := dd53_105.2.2.2.2.2.2.2.2.2.2.2.2
theorem b53_0 {d : Nat} {S : mm_S} {a0 : Nat} {x1 : Int32} {x2 : Int32} {a3 : Nat} : mm_ex d 53 0 [.ref a0, .int x1, .int x2, .ref a3, .null, .null] [] S =
    mm_ex d 53 6 [.ref a0, .int x1, .int x2, .ref a3, .int (nI 0), .int x1] [] S :=
  Eq.trans (mx_iconst t53 d53_0 (v := nI 0) rfl) <|
  Eq.trans (mx_istore t53 d53_1 (ls' := [.ref a0, .int x1, .int x2, .ref a3, .int (nI 0), .null]) rfl rfl) <|
  Eq.trans (mx_iload_n t53 d53_3 (x := x1) rfl) <|
  (mx_istore t53 d53_4 (ls' := [.ref a0, .int x1, .int x2, .ref a3, .int (nI 0), .int x1]) rfl rfl)
theorem b53_6 {d : Nat} {S : mm_S} {a0 : Nat} {x1 : Int32} {x2 : Int32} {a3 : Nat} {x4 : Int32} {x5 : Int32} : mm_ex d 53 6 [.ref a0, .int x1, .int x2, .ref a3, .int x4, .int x5] [] S =
    if x2 ≤ x5 then mm_ex d 53 114 [.ref a0, .int x1, .int x2, .ref a3, .int x4, .int x5] [] S else mm_ex d 53 12 [.ref a0, .int x1, .int x2, .ref a3, .int x4, .int x5] [] S :=
  Eq.trans (mx_iload t53 d53_6 (x := x5) rfl) <|
  Eq.trans (mx_iload_n t53 d53_8 (x := x2) rfl) <|
  (mx_cge t53 d53_9 (tgt := 114) (by decide))
theorem b53_12 {d : Nat} {S : mm_S} {a0 : Nat} {x1 : Int32} {x2 : Int32} {a3 : Nat} {x4 : Int32} {x5 : Int32} (h0 : mm_obj S a0 6 = true) (h1 : (mm_R S a0 7).isSome = true) (h2 : mm_inb x5 (mm_N S (mm_rg S a0 7)) = true) (h3 : mm_arr S (mm_rg S a0 7) 13 = true) : mm_ex d 53 12 [.ref a0, .int x1, .int x2, .ref a3, .int x4, .int x5] [] S =
    mm_ex d 53 19 [.ref a0, .int x1, .int x2, .ref a3, .int x4, .int x5] [.int (mm_M S (mm_rg S a0 7) (x5).toNatClampNeg)] S :=
  Eq.trans (mx_aload_n t53 d53_12 (x := a0) rfl) <|
  Eq.trans (mx_getR t53 d53_13 rfl fl6_21 h0 h1) <|
  Eq.trans (mx_iload t53 d53_16 (x := x5) rfl) <|
  (mx_iald t53 d53_18 h3 h2)
theorem b53_19 {d : Nat} {S : mm_S} {a0 : Nat} {x1 : Int32} {x2 : Int32} {a3 : Nat} {x4 : Int32} {x5 : Int32} {p0 : Int32} : mm_ex d 53 19 [.ref a0, .int x1, .int x2, .ref a3, .int x4, .int x5] [.int p0] S =
    if p0 = -3 then mm_ex d 53 68 [.ref a0, .int x1, .int x2, .ref a3, .int x4, .int x5] [] S else if p0 = -2 then mm_ex d 53 53 [.ref a0, .int x1, .int x2, .ref a3, .int x4, .int x5] [] S else if p0 = -1 then mm_ex d 53 44 [.ref a0, .int x1, .int x2, .ref a3, .int x4, .int x5] [] S else mm_ex d 53 82 [.ref a0, .int x1, .int x2, .ref a3, .int x4, .int x5] [] S := by
  by_cases e0 : p0 = -3
  · subst e0
    rw [if_pos rfl]
    exact mx_tswI t53 d53_19 (by decide) (off := 49) (by decide) (by decide)
  by_cases e1 : p0 = -2
  · subst e1
    rw [if_neg (by decide), if_pos rfl]
    exact mx_tswI t53 d53_19 (by decide) (off := 34) (by decide) (by decide)
  by_cases e2 : p0 = -1
  · subst e2
    rw [if_neg (by decide), if_neg (by decide), if_pos rfl]
    exact mx_tswI t53 d53_19 (by decide) (off := 25) (by decide) (by decide)
  rw [if_neg e0, if_neg e1, if_neg e2]
  have g0 := mm_ni32 e0
  have g1 := mm_ni32 e1
  have g2 := mm_ni32 e2
  rw [show (-3 : Int32).toInt = -3 by decide] at g0
  rw [show (-2 : Int32).toInt = -2 by decide] at g1
  rw [show (-1 : Int32).toInt = -1 by decide] at g2
  exact mx_tswD t53 d53_19 (by omega) (by decide)
theorem b53_44 {d : Nat} {S : mm_S} {a0 : Nat} {x1 : Int32} {x2 : Int32} {a3 : Nat} {x4 : Int32} {x5 : Int32} : mm_ex d 53 44 [.ref a0, .int x1, .int x2, .ref a3, .int x4, .int x5] [] S =
    mm_ex d 53 6 [.ref a0, .int x1, .int x2, .ref a3, .int (x4 ^^^ (nI 1)), .int (x5 + nI 1)] [] S :=
  Eq.trans (mx_iload t53 d53_44 (x := x4) rfl) <|
  Eq.trans (mx_iconst t53 d53_46 (v := nI 1) rfl) <|
  Eq.trans (mx_ixor t53 d53_47) <|
  Eq.trans (mx_istore t53 d53_48 (ls' := [.ref a0, .int x1, .int x2, .ref a3, .int (x4 ^^^ (nI 1)), .int x5]) rfl rfl) <|
  Eq.trans (mx_goto t53 d53_50 (tgt := 108) (by decide)) <|
  Eq.trans (mx_iinc t53 d53_108 (x := x5) (v := nI 1) (ls' := [.ref a0, .int x1, .int x2, .ref a3, .int (x4 ^^^ (nI 1)), .int (x5 + nI 1)]) rfl rfl rfl rfl) <|
  (mx_goto t53 d53_111 (tgt := 6) (by decide))
theorem b53_53 {d : Nat} {S : mm_S} {a0 : Nat} {x1 : Int32} {x2 : Int32} {a3 : Nat} {x4 : Int32} {x5 : Int32} : mm_ex d 53 53 [.ref a0, .int x1, .int x2, .ref a3, .int x4, .int x5] [] S =
    mm_ex d 53 6 [.ref a0, .int x1, .int x2, .ref a3, .int ((x4 >>> ((nI 1) &&& 31)) &&& (x4 ||| (-2))), .int (x5 + nI 1)] [] S :=
  Eq.trans (mx_iload t53 d53_53 (x := x4) rfl) <|
  Eq.trans (mx_iconst t53 d53_55 (v := nI 1) rfl) <|
  Eq.trans (mx_ishr t53 d53_56) <|
  Eq.trans (mx_iload t53 d53_57 (x := x4) rfl) <|
  Eq.trans (mx_bipush t53 d53_59 (v := -2) rfl) <|
  Eq.trans (mx_ior t53 d53_61) <|
  Eq.trans (mx_iand t53 d53_62) <|
  Eq.trans (mx_istore t53 d53_63 (ls' := [.ref a0, .int x1, .int x2, .ref a3, .int ((x4 >>> ((nI 1) &&& 31)) &&& (x4 ||| (-2))), .int x5]) rfl rfl) <|
  Eq.trans (mx_goto t53 d53_65 (tgt := 108) (by decide)) <|
  Eq.trans (mx_iinc t53 d53_108 (x := x5) (v := nI 1) (ls' := [.ref a0, .int x1, .int x2, .ref a3, .int ((x4 >>> ((nI 1) &&& 31)) &&& (x4 ||| (-2))), .int (x5 + nI 1)]) rfl rfl rfl rfl) <|
  (mx_goto t53 d53_111 (tgt := 6) (by decide))
theorem b53_68 {d : Nat} {S : mm_S} {a0 : Nat} {x1 : Int32} {x2 : Int32} {a3 : Nat} {x4 : Int32} {x5 : Int32} : mm_ex d 53 68 [.ref a0, .int x1, .int x2, .ref a3, .int x4, .int x5] [] S =
    mm_ex d 53 6 [.ref a0, .int x1, .int x2, .ref a3, .int ((x4 >>> ((nI 1) &&& 31)) ||| (x4 &&& (nI 1))), .int (x5 + nI 1)] [] S :=
  Eq.trans (mx_iload t53 d53_68 (x := x4) rfl) <|
  Eq.trans (mx_iconst t53 d53_70 (v := nI 1) rfl) <|
  Eq.trans (mx_ishr t53 d53_71) <|
  Eq.trans (mx_iload t53 d53_72 (x := x4) rfl) <|
  Eq.trans (mx_iconst t53 d53_74 (v := nI 1) rfl) <|
  Eq.trans (mx_iand t53 d53_75) <|
  Eq.trans (mx_ior t53 d53_76) <|
  Eq.trans (mx_istore t53 d53_77 (ls' := [.ref a0, .int x1, .int x2, .ref a3, .int ((x4 >>> ((nI 1) &&& 31)) ||| (x4 &&& (nI 1))), .int x5]) rfl rfl) <|
  Eq.trans (mx_goto t53 d53_79 (tgt := 108) (by decide)) <|
  Eq.trans (mx_iinc t53 d53_108 (x := x5) (v := nI 1) (ls' := [.ref a0, .int x1, .int x2, .ref a3, .int ((x4 >>> ((nI 1) &&& 31)) ||| (x4 &&& (nI 1))), .int (x5 + nI 1)]) rfl rfl rfl rfl) <|
  (mx_goto t53 d53_111 (tgt := 6) (by decide))
theorem b53_82 {d : Nat} {S : mm_S} {a0 : Nat} {x1 : Int32} {x2 : Int32} {a3 : Nat} {x4 : Int32} {x5 : Int32} (h0 : mm_obj S a0 6 = true) (h1 : (mm_R S a0 7).isSome = true) (h2 : mm_inb x5 (mm_N S (mm_rg S a0 7)) = true) (h3 : mm_arr S (mm_rg S a0 7) 13 = true) : mm_ex (d + 1) 53 82 [.ref a0, .int x1, .int x2, .ref a3, .int x4, .int x5] [] S =
    mm_bd (mm_cl d 54 [.int (mm_M S (mm_rg S a0 7) (x5).toNatClampNeg), .ref a3] S) (fun v S2 => mm_ex (d + 1) 53 97 [.ref a0, .int x1, .int x2, .ref a3, .int x4, .int x5] (v.toList ++ [.int (x4 <<< ((nI 1) &&& 31))]) S2) :=
  Eq.trans (mx_iload t53 d53_82 (x := x4) rfl) <|
  Eq.trans (mx_iconst t53 d53_84 (v := nI 1) rfl) <|
  Eq.trans (mx_ishl t53 d53_85) <|
  Eq.trans (mx_aload_n t53 d53_86 (x := a0) rfl) <|
  Eq.trans (mx_getR t53 d53_87 rfl fl6_21 h0 h1) <|
  Eq.trans (mx_iload t53 d53_90 (x := x5) rfl) <|
  Eq.trans (mx_iald t53 d53_92 h3 h2) <|
  Eq.trans (mx_aload_n t53 d53_93 (x := a3) rfl) <|
  (mx_stat (st := [.int (x4 <<< ((nI 1) &&& 31))]) t53 [.int (mm_M S (mm_rg S a0 7) (x5).toNatClampNeg), .ref a3] d53_94 acn6_50 mxn6_50 st6_50 rfl (Nat.le_of_ble_eq_true rfl) (Nat.le_of_ble_eq_true rfl))
theorem b53_97 {d : Nat} {S : mm_S} {a0 : Nat} {x1 : Int32} {x2 : Int32} {a3 : Nat} {x4 : Int32} {x5 : Int32} {p0 : Int32} {p1 : Int32} : mm_ex d 53 97 [.ref a0, .int x1, .int x2, .ref a3, .int x4, .int x5] [.int p0, .int p1] S =
    if p0 = nI 0 then mm_ex d 53 104 [.ref a0, .int x1, .int x2, .ref a3, .int x4, .int x5] [.int p1] S else mm_ex d 53 100 [.ref a0, .int x1, .int x2, .ref a3, .int x4, .int x5] [.int p1] S :=
  (mx_ieq t53 d53_97 (tgt := 104) (by decide))
theorem b53_100 {d : Nat} {S : mm_S} {a0 : Nat} {x1 : Int32} {x2 : Int32} {a3 : Nat} {x4 : Int32} {x5 : Int32} {p0 : Int32} : mm_ex d 53 100 [.ref a0, .int x1, .int x2, .ref a3, .int x4, .int x5] [.int p0] S =
    mm_ex d 53 6 [.ref a0, .int x1, .int x2, .ref a3, .int (p0 ||| (nI 1)), .int (x5 + nI 1)] [] S :=
  Eq.trans (mx_iconst t53 d53_100 (v := nI 1) rfl) <|
  Eq.trans (mx_goto t53 d53_101 (tgt := 105) (by decide)) <|
  Eq.trans (mx_ior t53 d53_105) <|
  Eq.trans (mx_istore t53 d53_106 (ls' := [.ref a0, .int x1, .int x2, .ref a3, .int (p0 ||| (nI 1)), .int x5]) rfl rfl) <|
  Eq.trans (mx_iinc t53 d53_108 (x := x5) (v := nI 1) (ls' := [.ref a0, .int x1, .int x2, .ref a3, .int (p0 ||| (nI 1)), .int (x5 + nI 1)]) rfl rfl rfl rfl) <|
  (mx_goto t53 d53_111 (tgt := 6) (by decide))
theorem b53_104 {d : Nat} {S : mm_S} {a0 : Nat} {x1 : Int32} {x2 : Int32} {a3 : Nat} {x4 : Int32} {x5 : Int32} {p0 : Int32} : mm_ex d 53 104 [.ref a0, .int x1, .int x2, .ref a3, .int x4, .int x5] [.int p0] S =
    mm_ex d 53 6 [.ref a0, .int x1, .int x2, .ref a3, .int (p0 ||| (nI 0)), .int (x5 + nI 1)] [] S :=
  Eq.trans (mx_iconst t53 d53_104 (v := nI 0) rfl) <|
  Eq.trans (mx_ior t53 d53_105) <|
  Eq.trans (mx_istore t53 d53_106 (ls' := [.ref a0, .int x1, .int x2, .ref a3, .int (p0 ||| (nI 0)), .int x5]) rfl rfl) <|
  Eq.trans (mx_iinc t53 d53_108 (x := x5) (v := nI 1) (ls' := [.ref a0, .int x1, .int x2, .ref a3, .int (p0 ||| (nI 0)), .int (x5 + nI 1)]) rfl rfl rfl rfl) <|
  (mx_goto t53 d53_111 (tgt := 6) (by decide))
theorem b53_114 {d : Nat} {S : mm_S} {a0 : Nat} {x1 : Int32} {x2 : Int32} {a3 : Nat} {x4 : Int32} {x5 : Int32} : mm_ex d 53 114 [.ref a0, .int x1, .int x2, .ref a3, .int x4, .int x5] [] S =
    if (x4 &&& (nI 1)) = (nI 1) then mm_ex d 53 122 [.ref a0, .int x1, .int x2, .ref a3, .int x4, .int x5] [] S else mm_ex d 53 126 [.ref a0, .int x1, .int x2, .ref a3, .int x4, .int x5] [] S :=
  Eq.trans (mx_iload t53 d53_114 (x := x4) rfl) <|
  Eq.trans (mx_iconst t53 d53_116 (v := nI 1) rfl) <|
  Eq.trans (mx_iand t53 d53_117) <|
  Eq.trans (mx_iconst t53 d53_118 (v := nI 1) rfl) <|
  (mx_cne t53 d53_119 (tgt := 126) (by decide))
theorem b53_122 {d : Nat} {S : mm_S} {a0 : Nat} {x1 : Int32} {x2 : Int32} {a3 : Nat} {x4 : Int32} {x5 : Int32} : mm_ex d 53 122 [.ref a0, .int x1, .int x2, .ref a3, .int x4, .int x5] [] S =
    some (some (.int (nI 1)), S) :=
  Eq.trans (mx_iconst t53 d53_122 (v := nI 1) rfl) <|
  Eq.trans (mx_goto t53 d53_123 (tgt := 127) (by decide)) <|
  (mx_iret t53 d53_127 (ty := .boolean) rfl rfl (fun h => nomatch h))
theorem b53_126 {d : Nat} {S : mm_S} {a0 : Nat} {x1 : Int32} {x2 : Int32} {a3 : Nat} {x4 : Int32} {x5 : Int32} : mm_ex d 53 126 [.ref a0, .int x1, .int x2, .ref a3, .int x4, .int x5] [] S =
    some (some (.int (nI 0)), S) :=
  Eq.trans (mx_iconst t53 d53_126 (v := nI 0) rfl) <|
  (mx_iret t53 d53_127 (ty := .boolean) rfl rfl (fun h => nomatch h))
theorem e53 {d : Nat} {S : mm_S} {a0 : Nat} {x1 : Int32} {x2 : Int32} {a3 : Nat} : mm_cl d 53 [.ref a0, .int x1, .int x2, .ref a3] S = mm_ex d 53 0 [.ref a0, .int x1, .int x2, .ref a3, .null, .null] [] S := mm_cl_eq t53 (Nat.le_of_ble_eq_true rfl) rfl
/-! X6_passes -/
theorem dd54_0 : (decode prog_8_method_8_code 0 = .ok (.iload_n 0, 1)) ∧ (decode prog_8_method_8_code 1 = .ok (.sipush 300, 3)) ∧ (decode prog_8_method_8_code 4 = .ok (.idiv, 1)) ∧ (decode prog_8_method_8_code 5 = .ok (.istore_n 2, 1)) ∧ (decode prog_8_method_8_code 6 = .ok (.iload_n 2, 1)) ∧ (decode prog_8_method_8_code 7 = .ok (.ifCond .lt 9, 3)) ∧ (decode prog_8_method_8_code 10 = .ok (.iload_n 2, 1)) ∧ (decode prog_8_method_8_code 11 = .ok (.aload_n 1, 1)) ∧ (decode prog_8_method_8_code 12 = .ok (.arraylength, 1)) ∧ (decode prog_8_method_8_code 13 = .ok (.if_icmp .lt 5, 3)) ∧ (decode prog_8_method_8_code 16 = .ok (.iconst 0, 1)) ∧ (decode prog_8_method_8_code 17 = .ok (.ireturn, 1)) ∧ (decode prog_8_method_8_code 18 = .ok (.iload_n 0, 1)) ∧ (decode prog_8_method_8_code 19 = .ok (.bipush 100, 2)) ∧ (decode prog_8_method_8_code 21 = .ok (.idiv, 1)) ∧ (decode prog_8_method_8_code 22 = .ok (.iconst 3, 1)) := by decide +kernel
theorem d54_0 : decode prog_8_method_8_code 0 = .ok (.iload_n 0, 1) := dd54_0.1
theorem d54_1 : decode prog_8_method_8_code 1 = .ok (.sipush 300, 3) := dd54_0.2.1
theorem d54_4 : decode prog_8_method_8_code 4 = .ok (.idiv, 1) := dd54_0.2.2.1
theorem d54_5 : decode prog_8_method_8_code 5 = .ok (.istore_n 2, 1) := dd54_0.2.2.2.1
theorem d54_6 : decode prog_8_method_8_code 6 = .ok (.iload_n 2, 1) := dd54_0.2.2.2.2.1
theorem d54_7 : decode prog_8_method_8_code 7 = .ok (.ifCond .lt 9, 3) := dd54_0.2.2.2.2.2.1
theorem d54_10 : decode prog_8_method_8_code 10 = .ok (.iload_n 2, 1) := dd54_0.2.2.2.2.2.2.1
theorem d54_11 : decode prog_8_method_8_code 11 = .ok (.aload_n 1, 1) := dd54_0.2.2.2.2.2.2.2.1
theorem d54_12 : decode prog_8_method_8_code 12 = .ok (.arraylength, 1) := dd54_0.2.2.2.2.2.2.2.2.1
theorem d54_13 : decode prog_8_method_8_code 13 = .ok (.if_icmp .lt 5, 3) := dd54_0.2.2.2.2.2.2.2.2.2.1
theorem d54_16 : decode prog_8_method_8_code 16 = .ok (.iconst 0, 1) := dd54_0.2.2.2.2.2.2.2.2.2.2.1
theorem d54_17 : decode prog_8_method_8_code 17 = .ok (.ireturn, 1) := dd54_0.2.2.2.2.2.2.2.2.2.2.2.1
theorem d54_18 : decode prog_8_method_8_code 18 = .ok (.iload_n 0, 1) := dd54_0.2.2.2.2.2.2.2.2.2.2.2.2.1
theorem d54_19 : decode prog_8_method_8_code 19 = .ok (.bipush 100, 2) := dd54_0.2.2.2.2.2.2.2.2.2.2.2.2.2.1
theorem d54_21 : decode prog_8_method_8_code 21 = .ok (.idiv, 1) := dd54_0.2.2.2.2.2.2.2.2.2.2.2.2.2.2.1
theorem d54_22 : decode prog_8_method_8_code 22 = .ok (.iconst 3, 1) := dd54_0.2.2.2.2.2.2.2.2.2.2.2.2.2.2.2
theorem dd54_23 : (decode prog_8_method_8_code 23 = .ok (.irem, 1)) ∧ (decode prog_8_method_8_code 24 = .ok (.istore_n 3, 1)) ∧ (decode prog_8_method_8_code 25 = .ok (.iload_n 0, 1)) ∧ (decode prog_8_method_8_code 26 = .ok (.bipush 100, 2)) ∧ (decode prog_8_method_8_code 28 = .ok (.irem, 1)) ∧ (decode prog_8_method_8_code 29 = .ok (.istore 4, 2)) ∧ (decode prog_8_method_8_code 31 = .ok (.iload_n 3, 1)) ∧ (decode prog_8_method_8_code 32 = .ok (.lookupswitch 56 #[(0, 28), (1, 42)], 28)) ∧ (decode prog_8_method_8_code 60 = .ok (.aload_n 1, 1)) ∧ (decode prog_8_method_8_code 61 = .ok (.iload_n 2, 1)) ∧ (decode prog_8_method_8_code 62 = .ok (.iaload, 1)) ∧ (decode prog_8_method_8_code 63 = .ok (.iload 4, 2)) ∧ (decode prog_8_method_8_code 65 = .ok (.if_icmp .ge 7, 3)) ∧ (decode prog_8_method_8_code 68 = .ok (.iconst 1, 1)) ∧ (decode prog_8_method_8_code 69 = .ok (.goto 4, 3)) ∧ (decode prog_8_method_8_code 72 = .ok (.iconst 0, 1)) := by decide +kernel
theorem d54_23 : decode prog_8_method_8_code 23 = .ok (.irem, 1) := dd54_23.1
theorem d54_24 : decode prog_8_method_8_code 24 = .ok (.istore_n 3, 1) := dd54_23.2.1
theorem d54_25 : decode prog_8_method_8_code 25 = .ok (.iload_n 0, 1) := dd54_23.2.2.1
theorem d54_26 : decode prog_8_method_8_code 26 = .ok (.bipush 100, 2) := dd54_23.2.2.2.1
theorem d54_28 : decode prog_8_method_8_code 28 = .ok (.irem, 1) := dd54_23.2.2.2.2.1
theorem d54_29 : decode prog_8_method_8_code 29 = .ok (.istore 4, 2) := dd54_23.2.2.2.2.2.1
theorem d54_31 : decode prog_8_method_8_code 31 = .ok (.iload_n 3, 1) := dd54_23.2.2.2.2.2.2.1
theorem d54_32 : decode prog_8_method_8_code 32 = .ok (.lookupswitch 56 #[(0, 28), (1, 42)], 28) := dd54_23.2.2.2.2.2.2.2.1
theorem d54_60 : decode prog_8_method_8_code 60 = .ok (.aload_n 1, 1) := dd54_23.2.2.2.2.2.2.2.2.1
theorem d54_61 : decode prog_8_method_8_code 61 = .ok (.iload_n 2, 1) := dd54_23.2.2.2.2.2.2.2.2.2.1
theorem d54_62 : decode prog_8_method_8_code 62 = .ok (.iaload, 1) := dd54_23.2.2.2.2.2.2.2.2.2.2.1
theorem d54_63 : decode prog_8_method_8_code 63 = .ok (.iload 4, 2) := dd54_23.2.2.2.2.2.2.2.2.2.2.2.1
theorem d54_65 : decode prog_8_method_8_code 65 = .ok (.if_icmp .ge 7, 3) := dd54_23.2.2.2.2.2.2.2.2.2.2.2.2.1
theorem d54_68 : decode prog_8_method_8_code 68 = .ok (.iconst 1, 1) := dd54_23.2.2.2.2.2.2.2.2.2.2.2.2.2.1
theorem d54_69 : decode prog_8_method_8_code 69 = .ok (.goto 4, 3) := dd54_23.2.2.2.2.2.2.2.2.2.2.2.2.2.2.1
theorem d54_72 : decode prog_8_method_8_code 72 = .ok (.iconst 0, 1) := dd54_23.2.2.2.2.2.2.2.2.2.2.2.2.2.2.2
theorem dd54_73 : (decode prog_8_method_8_code 73 = .ok (.ireturn, 1)) ∧ (decode prog_8_method_8_code 74 = .ok (.aload_n 1, 1)) ∧ (decode prog_8_method_8_code 75 = .ok (.iload_n 2, 1)) ∧ (decode prog_8_method_8_code 76 = .ok (.iaload, 1)) ∧ (decode prog_8_method_8_code 77 = .ok (.iload 4, 2)) ∧ (decode prog_8_method_8_code 79 = .ok (.if_icmp .ne 7, 3)) ∧ (decode prog_8_method_8_code 82 = .ok (.iconst 1, 1)) ∧ (decode prog_8_method_8_code 83 = .ok (.goto 4, 3)) ∧ (decode prog_8_method_8_code 86 = .ok (.iconst 0, 1)) ∧ (decode prog_8_method_8_code 87 = .ok (.ireturn, 1)) ∧ (decode prog_8_method_8_code 88 = .ok (.aload_n 1, 1)) ∧ (decode prog_8_method_8_code 89 = .ok (.iload_n 2, 1)) ∧ (decode prog_8_method_8_code 90 = .ok (.iaload, 1)) ∧ (decode prog_8_method_8_code 91 = .ok (.iload 4, 2)) ∧ (decode prog_8_method_8_code 93 = .ok (.if_icmp .le 7, 3)) ∧ (decode prog_8_method_8_code 96 = .ok (.iconst 1, 1)) := by decide +kernel
theorem d54_73 : decode prog_8_method_8_code 73 = .ok (.ireturn, 1) := dd54_73.1
theorem d54_74 : decode prog_8_method_8_code 74 = .ok (.aload_n 1, 1) := dd54_73.2.1
theorem d54_75 : decode prog_8_method_8_code 75 = .ok (.iload_n 2, 1) := dd54_73.2.2.1
theorem d54_76 : decode prog_8_method_8_code 76 = .ok (.iaload, 1) := dd54_73.2.2.2.1
theorem d54_77 : decode prog_8_method_8_code 77 = .ok (.iload 4, 2) := dd54_73.2.2.2.2.1
theorem d54_79 : decode prog_8_method_8_code 79 = .ok (.if_icmp .ne 7, 3) := dd54_73.2.2.2.2.2.1
theorem d54_82 : decode prog_8_method_8_code 82 = .ok (.iconst 1, 1) := dd54_73.2.2.2.2.2.2.1
theorem d54_83 : decode prog_8_method_8_code 83 = .ok (.goto 4, 3) := dd54_73.2.2.2.2.2.2.2.1
theorem d54_86 : decode prog_8_method_8_code 86 = .ok (.iconst 0, 1) := dd54_73.2.2.2.2.2.2.2.2.1
theorem d54_87 : decode prog_8_method_8_code 87 = .ok (.ireturn, 1) := dd54_73.2.2.2.2.2.2.2.2.2.1
theorem d54_88 : decode prog_8_method_8_code 88 = .ok (.aload_n 1, 1) := dd54_73.2.2.2.2.2.2.2.2.2.2.1
theorem d54_89 : decode prog_8_method_8_code 89 = .ok (.iload_n 2, 1) := dd54_73.2.2.2.2.2.2.2.2.2.2.2.1
theorem d54_90 : decode prog_8_method_8_code 90 = .ok (.iaload, 1) := dd54_73.2.2.2.2.2.2.2.2.2.2.2.2.1
theorem d54_91 : decode prog_8_method_8_code 91 = .ok (.iload 4, 2) := dd54_73.2.2.2.2.2.2.2.2.2.2.2.2.2.1
theorem d54_93 : decode prog_8_method_8_code 93 = .ok (.if_icmp .le 7, 3) := dd54_73.2.2.2.2.2.2.2.2.2.2.2.2.2.2.1
theorem d54_96 : decode prog_8_method_8_code 96 = .ok (.iconst 1, 1) := dd54_73.2.2.2.2.2.2.2.2.2.2.2.2.2.2.2
theorem dd54_97 : (decode prog_8_method_8_code 97 = .ok (.goto 4, 3)) ∧ (decode prog_8_method_8_code 100 = .ok (.iconst 0, 1)) ∧ (decode prog_8_method_8_code 101 = .ok (.ireturn, 1)) := by decide +kernel
theorem d54_97 : decode prog_8_method_8_code 97 = .ok (.goto 4, 3) := dd54_97.1
theorem d54_100 : decode prog_8_method_8_code 100 = .ok (.iconst 0, 1) := dd54_97.2.1
theorem d54_101 : decode prog_8_method_8_code 101 = .ok (.ireturn, 1) := dd54_97.2.2
theorem b54_0 {d : Nat} {S : mm_S} {x0 : Int32} {a1 : Nat} : mm_ex d 54 0 [.int x0, .ref a1, .null, .null, .null] [] S =
    if (x0 / (nI 300)) < nI 0 then mm_ex d 54 16 [.int x0, .ref a1, .int (x0 / (nI 300)), .null, .null] [] S else mm_ex d 54 10 [.int x0, .ref a1, .int (x0 / (nI 300)), .null, .null] [] S :=
  Eq.trans (mx_iload_n t54 d54_0 (x := x0) rfl) <|
  Eq.trans (mx_sipush t54 d54_1 (v := nI 300) rfl) <|
  Eq.trans (mx_idiv t54 d54_4 (by decide)) <|
  Eq.trans (mx_istore_n t54 d54_5 (ls' := [.int x0, .ref a1, .int (x0 / (nI 300)), .null, .null]) rfl rfl) <|
  Eq.trans (mx_iload_n t54 d54_6 (x := x0 / (nI 300)) rfl) <|
  (mx_ilt t54 d54_7 (tgt := 16) (by decide))
theorem b54_10 {d : Nat} {S : mm_S} {x0 : Int32} {a1 : Nat} {x2 : Int32} (h0 : mm_arr S a1 13 = true) : mm_ex d 54 10 [.int x0, .ref a1, .int x2, .null, .null] [] S =
    if x2 < (nI (mm_N S a1)) then mm_ex d 54 18 [.int x0, .ref a1, .int x2, .null, .null] [] S else mm_ex d 54 16 [.int x0, .ref a1, .int x2, .null, .null] [] S :=
  Eq.trans (mx_iload_n t54 d54_10 (x := x2) rfl) <|
  Eq.trans (mx_aload_n t54 d54_11 (x := a1) rfl) <|
  Eq.trans (mx_aleni t54 d54_12 h0) <|
  (mx_clt t54 d54_13 (tgt := 18) (by decide))
theorem b54_16 {d : Nat} {S : mm_S} {x0 : Int32} {a1 : Nat} {x2 : Int32} : mm_ex d 54 16 [.int x0, .ref a1, .int x2, .null, .null] [] S =
    some (some (.int (nI 0)), S) :=
  Eq.trans (mx_iconst t54 d54_16 (v := nI 0) rfl) <|
  (mx_iret t54 d54_17 (ty := .boolean) rfl rfl (fun h => nomatch h))
theorem b54_18 {d : Nat} {S : mm_S} {x0 : Int32} {a1 : Nat} {x2 : Int32} : mm_ex d 54 18 [.int x0, .ref a1, .int x2, .null, .null] [] S =
    mm_ex d 54 32 [.int x0, .ref a1, .int x2, .int ((x0 / (nI 100)) - (x0 / (nI 100)) / (nI 3) * (nI 3)), .int (x0 - x0 / (nI 100) * (nI 100))] [.int ((x0 / (nI 100)) - (x0 / (nI 100)) / (nI 3) * (nI 3))] S :=
  Eq.trans (mx_iload_n t54 d54_18 (x := x0) rfl) <|
  Eq.trans (mx_bipush t54 d54_19 (v := nI 100) rfl) <|
  Eq.trans (mx_idiv t54 d54_21 (by decide)) <|
  Eq.trans (mx_iconst t54 d54_22 (v := nI 3) rfl) <|
  Eq.trans (mx_irem t54 d54_23 (by decide)) <|
  Eq.trans (mx_istore_n t54 d54_24 (ls' := [.int x0, .ref a1, .int x2, .int ((x0 / (nI 100)) - (x0 / (nI 100)) / (nI 3) * (nI 3)), .null]) rfl rfl) <|
  Eq.trans (mx_iload_n t54 d54_25 (x := x0) rfl) <|
  Eq.trans (mx_bipush t54 d54_26 (v := nI 100) rfl) <|
  Eq.trans (mx_irem t54 d54_28 (by decide)) <|
  Eq.trans (mx_istore t54 d54_29 (ls' := [.int x0, .ref a1, .int x2, .int ((x0 / (nI 100)) - (x0 / (nI 100)) / (nI 3) * (nI 3)), .int (x0 - x0 / (nI 100) * (nI 100))]) rfl rfl) <|
  (mx_iload_n t54 d54_31 (x := (x0 / (nI 100)) - (x0 / (nI 100)) / (nI 3) * (nI 3)) rfl)
theorem b54_32 {d : Nat} {S : mm_S} {x0 : Int32} {a1 : Nat} {x2 : Int32} {x3 : Int32} {x4 : Int32} {p0 : Int32} : mm_ex d 54 32 [.int x0, .ref a1, .int x2, .int x3, .int x4] [.int p0] S =
    if p0 = nI 0 then mm_ex d 54 60 [.int x0, .ref a1, .int x2, .int x3, .int x4] [] S else if p0 = nI 1 then mm_ex d 54 74 [.int x0, .ref a1, .int x2, .int x3, .int x4] [] S else mm_ex d 54 88 [.int x0, .ref a1, .int x2, .int x3, .int x4] [] S := by
  by_cases e0 : p0 = nI 0
  · subst e0
    rw [if_pos rfl]
    exact mx_lsw t54 d54_32 (by decide) (by decide)
  by_cases e1 : p0 = nI 1
  · subst e1
    rw [if_neg (by decide), if_pos rfl]
    exact mx_lsw t54 d54_32 (by decide) (by decide)
  rw [if_neg e0, if_neg e1]
  have g0 := mm_ni32 e0
  have g1 := mm_ni32 e1
  rw [show (nI 0 : Int32).toInt = 0 by decide] at g0
  rw [show (nI 1 : Int32).toInt = 1 by decide] at g1
  exact mx_lsw t54 d54_32 (by decide) (by simp [Op.lookupswitch.offset, List.find?, g0, Ne.symm g0, g1, Ne.symm g1])
theorem b54_60 {d : Nat} {S : mm_S} {x0 : Int32} {a1 : Nat} {x2 : Int32} {x3 : Int32} {x4 : Int32} (h0 : mm_inb x2 (mm_N S a1) = true) (h1 : mm_arr S a1 13 = true) : mm_ex d 54 60 [.int x0, .ref a1, .int x2, .int x3, .int x4] [] S =
    if x4 ≤ (mm_M S a1 (x2).toNatClampNeg) then mm_ex d 54 72 [.int x0, .ref a1, .int x2, .int x3, .int x4] [] S else mm_ex d 54 68 [.int x0, .ref a1, .int x2, .int x3, .int x4] [] S :=
  Eq.trans (mx_aload_n t54 d54_60 (x := a1) rfl) <|
  Eq.trans (mx_iload_n t54 d54_61 (x := x2) rfl) <|
  Eq.trans (mx_iald t54 d54_62 h1 h0) <|
  Eq.trans (mx_iload t54 d54_63 (x := x4) rfl) <|
  (mx_cge t54 d54_65 (tgt := 72) (by decide))
theorem b54_68 {d : Nat} {S : mm_S} {x0 : Int32} {a1 : Nat} {x2 : Int32} {x3 : Int32} {x4 : Int32} : mm_ex d 54 68 [.int x0, .ref a1, .int x2, .int x3, .int x4] [] S =
    some (some (.int (nI 1)), S) :=
  Eq.trans (mx_iconst t54 d54_68 (v := nI 1) rfl) <|
  Eq.trans (mx_goto t54 d54_69 (tgt := 73) (by decide)) <|
  (mx_iret t54 d54_73 (ty := .boolean) rfl rfl (fun h => nomatch h))
theorem b54_72 {d : Nat} {S : mm_S} {x0 : Int32} {a1 : Nat} {x2 : Int32} {x3 : Int32} {x4 : Int32} : mm_ex d 54 72 [.int x0, .ref a1, .int x2, .int x3, .int x4] [] S =
    some (some (.int (nI 0)), S) :=
  Eq.trans (mx_iconst t54 d54_72 (v := nI 0) rfl) <|
  (mx_iret t54 d54_73 (ty := .boolean) rfl rfl (fun h => nomatch h))
theorem b54_74 {d : Nat} {S : mm_S} {x0 : Int32} {a1 : Nat} {x2 : Int32} {x3 : Int32} {x4 : Int32} (h0 : mm_inb x2 (mm_N S a1) = true) (h1 : mm_arr S a1 13 = true) : mm_ex d 54 74 [.int x0, .ref a1, .int x2, .int x3, .int x4] [] S =
    if (mm_M S a1 (x2).toNatClampNeg) = x4 then mm_ex d 54 82 [.int x0, .ref a1, .int x2, .int x3, .int x4] [] S else mm_ex d 54 86 [.int x0, .ref a1, .int x2, .int x3, .int x4] [] S :=
  Eq.trans (mx_aload_n t54 d54_74 (x := a1) rfl) <|
  Eq.trans (mx_iload_n t54 d54_75 (x := x2) rfl) <|
  Eq.trans (mx_iald t54 d54_76 h1 h0) <|
  Eq.trans (mx_iload t54 d54_77 (x := x4) rfl) <|
  (mx_cne t54 d54_79 (tgt := 86) (by decide))
theorem b54_82 {d : Nat} {S : mm_S} {x0 : Int32} {a1 : Nat} {x2 : Int32} {x3 : Int32} {x4 : Int32} : mm_ex d 54 82 [.int x0, .ref a1, .int x2, .int x3, .int x4] [] S =
    some (some (.int (nI 1)), S) :=
  Eq.trans (mx_iconst t54 d54_82 (v := nI 1) rfl) <|
  Eq.trans (mx_goto t54 d54_83 (tgt := 87) (by decide)) <|
  (mx_iret t54 d54_87 (ty := .boolean) rfl rfl (fun h => nomatch h))
theorem b54_86 {d : Nat} {S : mm_S} {x0 : Int32} {a1 : Nat} {x2 : Int32} {x3 : Int32} {x4 : Int32} : mm_ex d 54 86 [.int x0, .ref a1, .int x2, .int x3, .int x4] [] S =
    some (some (.int (nI 0)), S) :=
  Eq.trans (mx_iconst t54 d54_86 (v := nI 0) rfl) <|
  (mx_iret t54 d54_87 (ty := .boolean) rfl rfl (fun h => nomatch h))
theorem b54_88 {d : Nat} {S : mm_S} {x0 : Int32} {a1 : Nat} {x2 : Int32} {x3 : Int32} {x4 : Int32} (h0 : mm_inb x2 (mm_N S a1) = true) (h1 : mm_arr S a1 13 = true) : mm_ex d 54 88 [.int x0, .ref a1, .int x2, .int x3, .int x4] [] S =
    if (mm_M S a1 (x2).toNatClampNeg) ≤ x4 then mm_ex d 54 100 [.int x0, .ref a1, .int x2, .int x3, .int x4] [] S else mm_ex d 54 96 [.int x0, .ref a1, .int x2, .int x3, .int x4] [] S :=
  Eq.trans (mx_aload_n t54 d54_88 (x := a1) rfl) <|
  Eq.trans (mx_iload_n t54 d54_89 (x := x2) rfl) <|
  Eq.trans (mx_iald t54 d54_90 h1 h0) <|
  Eq.trans (mx_iload t54 d54_91 (x := x4) rfl) <|
  (mx_cle t54 d54_93 (tgt := 100) (by decide))
theorem b54_96 {d : Nat} {S : mm_S} {x0 : Int32} {a1 : Nat} {x2 : Int32} {x3 : Int32} {x4 : Int32} : mm_ex d 54 96 [.int x0, .ref a1, .int x2, .int x3, .int x4] [] S =
    some (some (.int (nI 1)), S) :=
  Eq.trans (mx_iconst t54 d54_96 (v := nI 1) rfl) <|
  Eq.trans (mx_goto t54 d54_97 (tgt := 101) (by decide)) <|
  (mx_iret t54 d54_101 (ty := .boolean) rfl rfl (fun h => nomatch h))
theorem b54_100 {d : Nat} {S : mm_S} {x0 : Int32} {a1 : Nat} {x2 : Int32} {x3 : Int32} {x4 : Int32} : mm_ex d 54 100 [.int x0, .ref a1, .int x2, .int x3, .int x4] [] S =
    some (some (.int (nI 0)), S) :=
  Eq.trans (mx_iconst t54 d54_100 (v := nI 0) rfl) <|
  (mx_iret t54 d54_101 (ty := .boolean) rfl rfl (fun h => nomatch h))
theorem e54 {d : Nat} {S : mm_S} {x0 : Int32} {a1 : Nat} : mm_cl d 54 [.int x0, .ref a1] S = mm_ex d 54 0 [.int x0, .ref a1, .null, .null, .null] [] S := mm_cl_eq t54 (Nat.le_of_ble_eq_true rfl) rfl
