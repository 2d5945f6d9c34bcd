/-! X5_init -/
theorem d34_0 : decode prog_7_method_1_code 0 = .ok (.aload_n 0, 1) := by decide +kernel
theorem d34_1 : decode prog_7_method_1_code 1 = .ok (.invokespecial 1, 3) := by decide +kernel
theorem d34_4 : decode prog_7_method_1_code 4 = .ok (.aload_n 0, 1) := by decide +kernel
theorem d34_5 : decode prog_7_method_1_code 5 = .ok (.bipush 100, 2) := by decide +kernel
theorem d34_7 : decode prog_7_method_1_code 7 = .ok (.newarray .int, 2) := by decide +kernel
theorem d34_9 : decode prog_7_method_1_code 9 = .ok (.putfield 9, 3) := by decide +kernel
theorem d34_12 : decode prog_7_method_1_code 12 = .ok (.return_, 1) := by decide +kernel
theorem b34_0 {d : Nat} {S : mm_S} {a0 : Nat} (h0 : (!decide (nI 100 < 0) && decide ((nI 100).toNatClampNeg ≤ 1000) && decide (mm_n S < 1000000)) = true) : mm_ex (d + 1) 34 0 [.ref a0] [] S =
    mm_ex (d + 1) 34 9 [.ref a0] [.ref (mm_n S), .ref a0] (mm_nw S 13 (nI 100).toNatClampNeg) :=
  Eq.trans (mx_aload_n t34 d34_0 (x := a0) rfl) <|
  Eq.trans (mx_oinit t34 d34_1 oi5_1 (Nat.le_of_ble_eq_true rfl)) <|
  Eq.trans (mx_aload_n t34 d34_4 (x := a0) rfl) <|
  Eq.trans (mx_bipush t34 d34_5 (v := nI 100) rfl) <|
  (mx_newi t34 d34_7 h0)
theorem b34_9 {d : Nat} {S : mm_S} {a0 : Nat} {p0 : Nat} {p1 : Nat} (h0 : mm_obj S p1 5 = true) (h1 : p0 < mm_n S) : mm_ex d 34 9 [.ref a0] [.ref p0, .ref p1] S =
    some (none, (mm_uR S p1 1 (some p0))) :=
  Eq.trans (mx_putr2 t34 d34_9 fl5_9 rfl h0 h1) <|
  (mx_vret t34 d34_12 rfl)
theorem e34 {d : Nat} {S : mm_S} {a0 : Nat} : mm_cl d 34 [.ref a0] S = mm_ex d 34 0 [.ref a0] [] S := mm_cl_eq t34 (Nat.le_of_ble_eq_true rfl) rfl
/-! X5_add -/
theorem d35_0 : decode prog_7_method_2_code 0 = .ok (.aload_n 0, 1) := by decide +kernel
theorem d35_1 : decode prog_7_method_2_code 1 = .ok (.getfield 13, 3) := by decide +kernel
theorem d35_4 : decode prog_7_method_2_code 4 = .ok (.bipush 100, 2) := by decide +kernel
theorem d35_6 : decode prog_7_method_2_code 6 = .ok (.if_icmp .lt 5, 3) := by decide +kernel
theorem d35_9 : decode prog_7_method_2_code 9 = .ok (.iconst 0, 1) := by decide +kernel
theorem d35_10 : decode prog_7_method_2_code 10 = .ok (.ireturn, 1) := by decide +kernel
theorem d35_11 : decode prog_7_method_2_code 11 = .ok (.aload_n 0, 1) := by decide +kernel
theorem d35_12 : decode prog_7_method_2_code 12 = .ok (.getfield 9, 3) := by decide +kernel
theorem d35_15 : decode prog_7_method_2_code 15 = .ok (.aload_n 0, 1) := by decide +kernel
theorem d35_16 : decode prog_7_method_2_code 16 = .ok (.getfield 13, 3) := by decide +kernel
theorem d35_19 : decode prog_7_method_2_code 19 = .ok (.iload_n 1, 1) := by decide +kernel
theorem d35_20 : decode prog_7_method_2_code 20 = .ok (.iastore, 1) := by decide +kernel
theorem d35_21 : decode prog_7_method_2_code 21 = .ok (.aload_n 0, 1) := by decide +kernel
theorem d35_22 : decode prog_7_method_2_code 22 = .ok (.dup, 1) := by decide +kernel
theorem d35_23 : decode prog_7_method_2_code 23 = .ok (.getfield 13, 3) := by decide +kernel
theorem d35_26 : decode prog_7_method_2_code 26 = .ok (.iconst 1, 1) := by decide +kernel
theorem d35_27 : decode prog_7_method_2_code 27 = .ok (.iadd, 1) := by decide +kernel
theorem d35_28 : decode prog_7_method_2_code 28 = .ok (.putfield 13, 3) := by decide +kernel
theorem d35_31 : decode prog_7_method_2_code 31 = .ok (.iconst 1, 1) := by decide +kernel
theorem d35_32 : decode prog_7_method_2_code 32 = .ok (.ireturn, 1) := by decide +kernel
theorem b35_0 {d : Nat} {S : mm_S} {a0 : Nat} {x1 : Int32} (h0 : mm_obj S a0 5 = true) : mm_ex d 35 0 [.ref a0, .int x1] [] S =
    if (mm_M S a0 0) < (nI 100) then mm_ex d 35 11 [.ref a0, .int x1] [] S else mm_ex d 35 9 [.ref a0, .int x1] [] S :=
  Eq.trans (mx_aload_n t35 d35_0 (x := a0) rfl) <|
  Eq.trans (mx_geti t35 d35_1 rfl fl5_13 h0) <|
  Eq.trans (mx_bipush t35 d35_4 (v := nI 100) rfl) <|
  (mx_clt t35 d35_6 (tgt := 11) (by decide))
theorem b35_9 {d : Nat} {S : mm_S} {a0 : Nat} {x1 : Int32} : mm_ex d 35 9 [.ref a0, .int x1] [] S =
    some (some (.int (nI 0)), S) :=
  Eq.trans (mx_iconst t35 d35_9 (v := nI 0) rfl) <|
  (mx_iret t35 d35_10 (ty := .boolean) rfl rfl (fun h => nomatch h))
theorem b35_11 {d : Nat} {S : mm_S} {a0 : Nat} {x1 : Int32} (h0 : mm_obj S a0 5 = true) (h1 : (mm_R S a0 1).isSome = true) (h2 : mm_arr S (mm_rg S a0 1) 13 = true) (h3 : mm_inb (mm_M S a0 0) (mm_N S (mm_rg S a0 1)) = true) : mm_ex d 35 11 [.ref a0, .int x1] [] S =
    mm_ex d 35 23 [.ref a0, .int x1] [.ref a0, .ref a0] (mm_uM S (mm_rg S a0 1) (mm_M S a0 0).toNatClampNeg x1) :=
  Eq.trans (mx_aload_n t35 d35_11 (x := a0) rfl) <|
  Eq.trans (mx_getR t35 d35_12 rfl fl5_9 h0 h1) <|
  Eq.trans (mx_aload_n t35 d35_15 (x := a0) rfl) <|
  Eq.trans (mx_geti t35 d35_16 rfl fl5_13 h0) <|
  Eq.trans (mx_iload_n t35 d35_19 (x := x1) rfl) <|
  Eq.trans (mx_iast2 t35 d35_20 h2 h3) <|
  Eq.trans (mx_aload_n t35 d35_21 (x := a0) rfl) <|
  (mx_dupr t35 d35_22)
theorem b35_23 {d : Nat} {S : mm_S} {a0 : Nat} {x1 : Int32} {p0 : Nat} {p1 : Nat} (h0 : mm_obj S p0 5 = true) (h1 : mm_obj S p1 5 = true) : mm_ex d 35 23 [.ref a0, .int x1] [.ref p0, .ref p1] S =
    some (some (.int (nI 1)), (mm_uM S p1 0 ((mm_M S p0 0) + (nI 1)))) :=
  Eq.trans (mx_geti t35 d35_23 rfl fl5_13 h0) <|
  Eq.trans (mx_iconst t35 d35_26 (v := nI 1) rfl) <|
  Eq.trans (mx_iadd t35 d35_27) <|
  Eq.trans (mx_puti2 t35 d35_28 fl5_13 rfl h1) <|
  Eq.trans (mx_iconst t35 d35_31 (v := nI 1) rfl) <|
  (mx_iret t35 d35_32 (ty := .boolean) rfl rfl (fun h => nomatch h))
theorem e35 {d : Nat} {S : mm_S} {a0 : Nat} {x1 : Int32} : mm_cl d 35 [.ref a0, .int x1] S = mm_ex d 35 0 [.ref a0, .int x1] [] S := mm_cl_eq t35 (Nat.le_of_ble_eq_true rfl) rfl
/-! X5_empty -/
theorem d36_0 : decode prog_7_method_3_code 0 = .ok (.aload_n 0, 1) := by decide +kernel
theorem d36_1 : decode prog_7_method_3_code 1 = .ok (.iconst 0, 1) := by decide +kernel
theorem d36_2 : decode prog_7_method_3_code 2 = .ok (.putfield 13, 3) := by decide +kernel
theorem d36_5 : decode prog_7_method_3_code 5 = .ok (.return_, 1) := by decide +kernel
theorem b36_0 {d : Nat} {S : mm_S} {a0 : Nat} (h0 : mm_obj S a0 5 = true) : mm_ex d 36 0 [.ref a0] [] S =
    some (none, (mm_uM S a0 0 (nI 0))) :=
  Eq.trans (mx_aload_n t36 d36_0 (x := a0) rfl) <|
  Eq.trans (mx_iconst t36 d36_1 (v := nI 0) rfl) <|
  Eq.trans (mx_puti2 t36 d36_2 fl5_13 rfl h0) <|
  (mx_vret t36 d36_5 rfl)
theorem e36 {d : Nat} {S : mm_S} {a0 : Nat} : mm_cl d 36 [.ref a0] S = mm_ex d 36 0 [.ref a0] [] S := mm_cl_eq t36 (Nat.le_of_ble_eq_true rfl) rfl
/-! X5_readInto -/
theorem dd37_0 : (decode prog_7_method_4_code 0 = .ok (.aload_n 0, 1)) ∧ (decode prog_7_method_4_code 1 = .ok (.aload_n 1, 1)) ∧ (decode prog_7_method_4_code 2 = .ok (.putfield 17, 3)) ∧ (decode prog_7_method_4_code 5 = .ok (.aload_n 0, 1)) ∧ (decode prog_7_method_4_code 6 = .ok (.getfield 17, 3)) ∧ (decode prog_7_method_4_code 9 = .ok (.invokevirtual 21, 3)) ∧ (decode prog_7_method_4_code 12 = .ok (.aload_n 0, 1)) ∧ (decode prog_7_method_4_code 13 = .ok (.iconst 0, 1)) ∧ (decode prog_7_method_4_code 14 = .ok (.putfield 26, 3)) ∧ (decode prog_7_method_4_code 17 = .ok (.iconst 1, 1)) ∧ (decode prog_7_method_4_code 18 = .ok (.istore_n 2, 1)) ∧ (decode prog_7_method_4_code 19 = .ok (.iload_n 2, 1)) ∧ (decode prog_7_method_4_code 20 = .ok (.bipush 10, 2)) ∧ (decode prog_7_method_4_code 22 = .ok (.if_icmp .gt 54, 3)) ∧ (decode prog_7_method_4_code 25 = .ok (.aload_n 0, 1)) ∧ (decode prog_7_method_4_code 26 = .ok (.invokevirtual 29, 3)) := by decide +kernel
theorem d37_0 : decode prog_7_method_4_code 0 = .ok (.aload_n 0, 1) := dd37_0.1
theorem d37_1 : decode prog_7_method_4_code 1 = .ok (.aload_n 1, 1) := dd37_0.2.1
theorem d37_2 : decode prog_7_method_4_code 2 = .ok (.putfield 17, 3) := dd37_0.2.2.1
theorem d37_5 : decode prog_7_method_4_code 5 = .ok (.aload_n 0, 1) := dd37_0.2.2.2.1
theorem d37_6 : decode prog_7_method_4_code 6 = .ok (.getfield 17, 3) := dd37_0.2.2.2.2.1
theorem d37_9 : decode prog_7_method_4_code 9 = .ok (.invokevirtual 21, 3) := dd37_0.2.2.2.2.2.1
theorem d37_12 : decode prog_7_method_4_code 12 = .ok (.aload_n 0, 1) := dd37_0.2.2.2.2.2.2.1
theorem d37_13 : decode prog_7_method_4_code 13 = .ok (.iconst 0, 1) := dd37_0.2.2.2.2.2.2.2.1
theorem d37_14 : decode prog_7_method_4_code 14 = .ok (.putfield 26, 3) := dd37_0.2.2.2.2.2.2.2.2.1
theorem d37_17 : decode prog_7_method_4_code 17 = .ok (.iconst 1, 1) := dd37_0.2.2.2.2.2.2.2.2.2.1
theorem d37_18 : decode prog_7_method_4_code 18 = .ok (.istore_n 2, 1) := dd37_0.2.2.2.2.2.2.2.2.2.2.1
theorem d37_19 : decode prog_7_method_4_code 19 = .ok (.iload_n 2, 1) := dd37_0.2.2.2.2.2.2.2.2.2.2.2.1
theorem d37_20 : decode prog_7_method_4_code 20 = .ok (.bipush 10, 2) := dd37_0.2.2.2.2.2.2.2.2.2.2.2.2.1
theorem d37_22 : decode prog_7_method_4_code 22 = .ok (.if_icmp .gt 54, 3) := dd37_0.2.2.2.2.2.2.2.2.2.2.2.2.2.1
theorem d37_25 : decode prog_7_method_4_code 25 = .ok (.aload_n 0, 1) := dd37_0.2.2.2.2.2.2.2.2.2.2.2.2.2.2.1
theorem d37_26 : decode prog_7_method_4_code 26 = .ok (.invokevirtual 29, 3) := dd37_0.2.2.2.2.2.2.2.2.2.2.2.2.2.2.2
theorem dd37_29 : (decode prog_7_method_4_code 29 = .ok (.ifCond .ne 8, 3)) ∧ (decode prog_7_method_4_code 32 = .ok (.aload_n 0, 1)) ∧ (decode prog_7_method_4_code 33 = .ok (.getfield 26, 3)) ∧ (decode prog_7_method_4_code 36 = .ok (.ireturn, 1)) ∧ (decode prog_7_method_4_code 37 = .ok (.aload_n 0, 1)) ∧ (decode prog_7_method_4_code 38 = .ok (.getfield 26, 3)) ∧ (decode prog_7_method_4_code 41 = .ok (.aload_n 0, 1)) ∧ (decode prog_7_method_4_code 42 = .ok (.getfield 13, 3)) ∧ (decode prog_7_method_4_code 45 = .ok (.if_icmp .lt 5, 3)) ∧ (decode prog_7_method_4_code 48 = .ok (.iconst (-1), 1)) ∧ (decode prog_7_method_4_code 49 = .ok (.ireturn, 1)) ∧ (decode prog_7_method_4_code 50 = .ok (.iload_n 2, 1)) ∧ (decode prog_7_method_4_code 51 = .ok (.bipush 10, 2)) ∧ (decode prog_7_method_4_code 53 = .ok (.if_icmp .eq 12, 3)) ∧ (decode prog_7_method_4_code 56 = .ok (.aload_n 0, 1)) ∧ (decode prog_7_method_4_code 57 = .ok (.ldc 33, 2)) := by decide +kernel
theorem d37_29 : decode prog_7_method_4_code 29 = .ok (.ifCond .ne 8, 3) := dd37_29.1
theorem d37_32 : decode prog_7_method_4_code 32 = .ok (.aload_n 0, 1) := dd37_29.2.1
theorem d37_33 : decode prog_7_method_4_code 33 = .ok (.getfield 26, 3) := dd37_29.2.2.1
theorem d37_36 : decode prog_7_method_4_code 36 = .ok (.ireturn, 1) := dd37_29.2.2.2.1
theorem d37_37 : decode prog_7_method_4_code 37 = .ok (.aload_n 0, 1) := dd37_29.2.2.2.2.1
theorem d37_38 : decode prog_7_method_4_code 38 = .ok (.getfield 26, 3) := dd37_29.2.2.2.2.2.1
theorem d37_41 : decode prog_7_method_4_code 41 = .ok (.aload_n 0, 1) := dd37_29.2.2.2.2.2.2.1
theorem d37_42 : decode prog_7_method_4_code 42 = .ok (.getfield 13, 3) := dd37_29.2.2.2.2.2.2.2.1
theorem d37_45 : decode prog_7_method_4_code 45 = .ok (.if_icmp .lt 5, 3) := dd37_29.2.2.2.2.2.2.2.2.1
theorem d37_48 : decode prog_7_method_4_code 48 = .ok (.iconst (-1), 1) := dd37_29.2.2.2.2.2.2.2.2.2.1
theorem d37_49 : decode prog_7_method_4_code 49 = .ok (.ireturn, 1) := dd37_29.2.2.2.2.2.2.2.2.2.2.1
theorem d37_50 : decode prog_7_method_4_code 50 = .ok (.iload_n 2, 1) := dd37_29.2.2.2.2.2.2.2.2.2.2.2.1
theorem d37_51 : decode prog_7_method_4_code 51 = .ok (.bipush 10, 2) := dd37_29.2.2.2.2.2.2.2.2.2.2.2.2.1
theorem d37_53 : decode prog_7_method_4_code 53 = .ok (.if_icmp .eq 12, 3) := dd37_29.2.2.2.2.2.2.2.2.2.2.2.2.2.1
theorem d37_56 : decode prog_7_method_4_code 56 = .ok (.aload_n 0, 1) := dd37_29.2.2.2.2.2.2.2.2.2.2.2.2.2.2.1
theorem d37_57 : decode prog_7_method_4_code 57 = .ok (.ldc 33, 2) := dd37_29.2.2.2.2.2.2.2.2.2.2.2.2.2.2.2
theorem dd37_59 : (decode prog_7_method_4_code 59 = .ok (.invokevirtual 35, 3)) ∧ (decode prog_7_method_4_code 62 = .ok (.ifCond .ne 8, 3)) ∧ (decode prog_7_method_4_code 65 = .ok (.aload_n 0, 1)) ∧ (decode prog_7_method_4_code 66 = .ok (.getfield 26, 3)) ∧ (decode prog_7_method_4_code 69 = .ok (.ireturn, 1)) ∧ (decode prog_7_method_4_code 70 = .ok (.iinc 2 1, 3)) ∧ (decode prog_7_method_4_code 73 = .ok (.goto (-54), 3)) ∧ (decode prog_7_method_4_code 76 = .ok (.aload_n 0, 1)) ∧ (decode prog_7_method_4_code 77 = .ok (.getfield 26, 3)) ∧ (decode prog_7_method_4_code 80 = .ok (.ireturn, 1)) := by decide +kernel
theorem d37_59 : decode prog_7_method_4_code 59 = .ok (.invokevirtual 35, 3) := dd37_59.1
theorem d37_62 : decode prog_7_method_4_code 62 = .ok (.ifCond .ne 8, 3) := dd37_59.2.1
theorem d37_65 : decode prog_7_method_4_code 65 = .ok (.aload_n 0, 1) := dd37_59.2.2.1
theorem d37_66 : decode prog_7_method_4_code 66 = .ok (.getfield 26, 3) := dd37_59.2.2.2.1
theorem d37_69 : decode prog_7_method_4_code 69 = .ok (.ireturn, 1) := dd37_59.2.2.2.2.1
theorem d37_70 : decode prog_7_method_4_code 70 = .ok (.iinc 2 1, 3) := dd37_59.2.2.2.2.2.1
theorem d37_73 : decode prog_7_method_4_code 73 = .ok (.goto (-54), 3) := dd37_59.2.2.2.2.2.2.1
theorem d37_76 : decode prog_7_method_4_code 76 = .ok (.aload_n 0, 1) := dd37_59.2.2.2.2.2.2.2.1
theorem d37_77 : decode prog_7_method_4_code 77 = .ok (.getfield 26, 3) := dd37_59.2.2.2.2.2.2.2.2.1
theorem d37_80 : decode prog_7_method_4_code 80 = .ok (.ireturn, 1) := dd37_59.2.2.2.2.2.2.2.2.2
theorem b37_0 {d : Nat} {S : mm_S} {a0 : Nat} {a1 : Nat} (h0 : mm_obj S a0 5 = true) (h1 : a1 < mm_n S) : mm_ex d 37 0 [.ref a0, .ref a1, .null] [] S =
    mm_ex d 37 6 [.ref a0, .ref a1, .null] [.ref a0] (mm_uR S a0 3 (some a1)) :=
  Eq.trans (mx_aload_n t37 d37_0 (x := a0) rfl) <|
  Eq.trans (mx_aload_n t37 d37_1 (x := a1) rfl) <|
  Eq.trans (mx_putr2 t37 d37_2 fl5_17 rfl h0 h1) <|
  (mx_aload_n t37 d37_5 (x := a0) rfl)
theorem b37_6 {d : Nat} {S : mm_S} {a0 : Nat} {a1 : Nat} {p0 : Nat} (h0 : mm_obj S p0 5 = true) (h1 : (mm_R S p0 3).isSome = true) (h2 : mm_rk S (mm_rg S p0 3) = 6) : mm_ex (d + 1) 37 6 [.ref a0, .ref a1, .null] [.ref p0] S =
    mm_bd (mm_cl d 48 [.ref (mm_rg S p0 3)] S) (fun v S2 => mm_ex (d + 1) 37 12 [.ref a0, .ref a1, .null] (v.toList ++ []) S2) :=
  Eq.trans (mx_getR t37 d37_6 rfl fl5_17 h0 h1) <|
  (mx_virt (st := []) (k := 6) t37 [] d37_9 vt5_21 rfl rfl (Nat.le_of_ble_eq_true rfl) (Nat.le_of_ble_eq_true rfl) h2)
theorem b37_12 {d : Nat} {S : mm_S} {a0 : Nat} {a1 : Nat} (h0 : mm_obj S a0 5 = true) : mm_ex d 37 12 [.ref a0, .ref a1, .null] [] S =
    mm_ex d 37 19 [.ref a0, .ref a1, .int (nI 1)] [] (mm_uM S a0 2 (nI 0)) :=
  Eq.trans (mx_aload_n t37 d37_12 (x := a0) rfl) <|
  Eq.trans (mx_iconst t37 d37_13 (v := nI 0) rfl) <|
  Eq.trans (mx_puti2 t37 d37_14 fl5_26 rfl h0) <|
  Eq.trans (mx_iconst t37 d37_17 (v := nI 1) rfl) <|
  (mx_istore_n t37 d37_18 (ls' := [.ref a0, .ref a1, .int (nI 1)]) rfl rfl)
theorem b37_19 {d : Nat} {S : mm_S} {a0 : Nat} {a1 : Nat} {x2 : Int32} : mm_ex d 37 19 [.ref a0, .ref a1, .int x2] [] S =
    if (nI 10) < x2 then mm_ex d 37 76 [.ref a0, .ref a1, .int x2] [] S else mm_ex d 37 25 [.ref a0, .ref a1, .int x2] [] S :=
  Eq.trans (mx_iload_n t37 d37_19 (x := x2) rfl) <|
  Eq.trans (mx_bipush t37 d37_20 (v := nI 10) rfl) <|
  (mx_cgt t37 d37_22 (tgt := 76) (by decide))
theorem b37_25 {d : Nat} {S : mm_S} {a0 : Nat} {a1 : Nat} {x2 : Int32} (h0 : mm_rk S a0 = 5) : mm_ex (d + 1) 37 25 [.ref a0, .ref a1, .int x2] [] S =
    mm_bd (mm_cl d 41 [.ref a0] S) (fun v S2 => mm_ex (d + 1) 37 29 [.ref a0, .ref a1, .int x2] (v.toList ++ []) S2) :=
  Eq.trans (mx_aload_n t37 d37_25 (x := a0) rfl) <|
  (mx_virt (st := []) (k := 5) t37 [] d37_26 vt5_29 rfl rfl (Nat.le_of_ble_eq_true rfl) (Nat.le_of_ble_eq_true rfl) h0)
theorem b37_29 {d : Nat} {S : mm_S} {a0 : Nat} {a1 : Nat} {x2 : Int32} {p0 : Int32} : mm_ex d 37 29 [.ref a0, .ref a1, .int x2] [.int p0] S =
    if p0 = nI 0 then mm_ex d 37 32 [.ref a0, .ref a1, .int x2] [] S else mm_ex d 37 37 [.ref a0, .ref a1, .int x2] [] S :=
  (mx_ine t37 d37_29 (tgt := 37) (by decide))
theorem b37_32 {d : Nat} {S : mm_S} {a0 : Nat} {a1 : Nat} {x2 : Int32} (h0 : mm_obj S a0 5 = true) : mm_ex d 37 32 [.ref a0, .ref a1, .int x2] [] S =
    some (some (.int (mm_M S a0 2)), S) :=
  Eq.trans (mx_aload_n t37 d37_32 (x := a0) rfl) <|
  Eq.trans (mx_geti t37 d37_33 rfl fl5_26 h0) <|
  (mx_iret t37 d37_36 (ty := .int) rfl rfl (fun h => nomatch h))
theorem b37_37 {d : Nat} {S : mm_S} {a0 : Nat} {a1 : Nat} {x2 : Int32} (h0 : mm_obj S a0 5 = true) : mm_ex d 37 37 [.ref a0, .ref a1, .int x2] [] S =
    if (mm_M S a0 2) < (mm_M S a0 0) then mm_ex d 37 50 [.ref a0, .ref a1, .int x2] [] S else mm_ex d 37 48 [.ref a0, .ref a1, .int x2] [] S :=
  Eq.trans (mx_aload_n t37 d37_37 (x := a0) rfl) <|
  Eq.trans (mx_geti t37 d37_38 rfl fl5_26 h0) <|
  Eq.trans (mx_aload_n t37 d37_41 (x := a0) rfl) <|
  Eq.trans (mx_geti t37 d37_42 rfl fl5_13 h0) <|
  (mx_clt t37 d37_45 (tgt := 50) (by decide))
theorem b37_48 {d : Nat} {S : mm_S} {a0 : Nat} {a1 : Nat} {x2 : Int32} : mm_ex d 37 48 [.ref a0, .ref a1, .int x2] [] S =
    some (some (.int (-1)), S) :=
  Eq.trans (mx_iconst t37 d37_48 (v := -1) rfl) <|
  (mx_iret t37 d37_49 (ty := .int) rfl rfl (fun h => nomatch h))
theorem b37_50 {d : Nat} {S : mm_S} {a0 : Nat} {a1 : Nat} {x2 : Int32} : mm_ex d 37 50 [.ref a0, .ref a1, .int x2] [] S =
    if x2 = (nI 10) then mm_ex d 37 65 [.ref a0, .ref a1, .int x2] [] S else mm_ex d 37 56 [.ref a0, .ref a1, .int x2] [] S :=
  Eq.trans (mx_iload_n t37 d37_50 (x := x2) rfl) <|
  Eq.trans (mx_bipush t37 d37_51 (v := nI 10) rfl) <|
  (mx_ceq t37 d37_53 (tgt := 65) (by decide))
theorem b37_56 {d : Nat} {S : mm_S} {a0 : Nat} {a1 : Nat} {x2 : Int32} (h0 : mm_rk S a0 = 5) : mm_ex (d + 1) 37 56 [.ref a0, .ref a1, .int x2] [] S =
    mm_bd (mm_cl d 39 [.ref a0, .ref 1000000] S) (fun v S2 => mm_ex (d + 1) 37 62 [.ref a0, .ref a1, .int x2] (v.toList ++ []) S2) :=
  Eq.trans (mx_aload_n t37 d37_56 (x := a0) rfl) <|
  Eq.trans (mx_ldc t37 d37_57 (v := .ref 1000000) lc5_33) <|
  (mx_virt (st := []) (k := 5) t37 [.ref 1000000] d37_59 vt5_35 rfl rfl (Nat.le_of_ble_eq_true rfl) (Nat.le_of_ble_eq_true rfl) h0)
theorem b37_62 {d : Nat} {S : mm_S} {a0 : Nat} {a1 : Nat} {x2 : Int32} {p0 : Int32} : mm_ex d 37 62 [.ref a0, .ref a1, .int x2] [.int p0] S =
    if p0 = nI 0 then mm_ex d 37 65 [.ref a0, .ref a1, .int x2] [] S else mm_ex d 37 70 [.ref a0, .ref a1, .int x2] [] S :=
  (mx_ine t37 d37_62 (tgt := 70) (by decide))
theorem b37_65 {d : Nat} {S : mm_S} {a0 : Nat} {a1 : Nat} {x2 : Int32} (h0 : mm_obj S a0 5 = true) : mm_ex d 37 65 [.ref a0, .ref a1, .int x2] [] S =
    some (some (.int (mm_M S a0 2)), S) :=
  Eq.trans (mx_aload_n t37 d37_65 (x := a0) rfl) <|
  Eq.trans (mx_geti t37 d37_66 rfl fl5_26 h0) <|
  (mx_iret t37 d37_69 (ty := .int) rfl rfl (fun h => nomatch h))
theorem b37_70 {d : Nat} {S : mm_S} {a0 : Nat} {a1 : Nat} {x2 : Int32} : mm_ex d 37 70 [.ref a0, .ref a1, .int x2] [] S =
    mm_ex d 37 19 [.ref a0, .ref a1, .int (x2 + nI 1)] [] S :=
  Eq.trans (mx_iinc t37 d37_70 (x := x2) (v := nI 1) (ls' := [.ref a0, .ref a1, .int (x2 + nI 1)]) rfl rfl rfl rfl) <|
  (mx_goto t37 d37_73 (tgt := 19) (by decide))
theorem b37_76 {d : Nat} {S : mm_S} {a0 : Nat} {a1 : Nat} {x2 : Int32} (h0 : mm_obj S a0 5 = true) : mm_ex d 37 76 [.ref a0, .ref a1, .int x2] [] S =
    some (some (.int (mm_M S a0 2)), S) :=
  Eq.trans (mx_aload_n t37 d37_76 (x := a0) rfl) <|
  Eq.trans (mx_geti t37 d37_77 rfl fl5_26 h0) <|
  (mx_iret t37 d37_80 (ty := .int) rfl rfl (fun h => nomatch h))
theorem e37 {d : Nat} {S : mm_S} {a0 : Nat} {a1 : Nat} : mm_cl d 37 [.ref a0, .ref a1] S = mm_ex d 37 0 [.ref a0, .ref a1, .null] [] S := mm_cl_eq t37 (Nat.le_of_ble_eq_true rfl) rfl
/-! X5_next -/
theorem d38_0 : decode prog_7_method_5_code 0 = .ok (.aload_n 0, 1) := by decide +kernel
theorem d38_1 : decode prog_7_method_5_code 1 = .ok (.getfield 26, 3) := by decide +kernel
theorem d38_4 : decode prog_7_method_5_code 4 = .ok (.aload_n 0, 1) := by decide +kernel
theorem d38_5 : decode prog_7_method_5_code 5 = .ok (.getfield 13, 3) := by decide +kernel
theorem d38_8 : decode prog_7_method_5_code 8 = .ok (.if_icmp .ge 15, 3) := by decide +kernel
theorem d38_11 : decode prog_7_method_5_code 11 = .ok (.aload_n 0, 1) := by decide +kernel
theorem d38_12 : decode prog_7_method_5_code 12 = .ok (.getfield 9, 3) := by decide +kernel
theorem d38_15 : decode prog_7_method_5_code 15 = .ok (.aload_n 0, 1) := by decide +kernel
theorem d38_16 : decode prog_7_method_5_code 16 = .ok (.getfield 26, 3) := by decide +kernel
theorem d38_19 : decode prog_7_method_5_code 19 = .ok (.iaload, 1) := by decide +kernel
theorem d38_20 : decode prog_7_method_5_code 20 = .ok (.goto 4, 3) := by decide +kernel
theorem d38_23 : decode prog_7_method_5_code 23 = .ok (.iconst 0, 1) := by decide +kernel
theorem d38_24 : decode prog_7_method_5_code 24 = .ok (.ireturn, 1) := by decide +kernel
theorem b38_0 {d : Nat} {S : mm_S} {a0 : Nat} (h0 : mm_obj S a0 5 = true) : mm_ex d 38 0 [.ref a0] [] S =
    if (mm_M S a0 0) ≤ (mm_M S a0 2) then mm_ex d 38 23 [.ref a0] [] S else mm_ex d 38 11 [.ref a0] [] S :=
  Eq.trans (mx_aload_n t38 d38_0 (x := a0) rfl) <|
  Eq.trans (mx_geti t38 d38_1 rfl fl5_26 h0) <|
  Eq.trans (mx_aload_n t38 d38_4 (x := a0) rfl) <|
  Eq.trans (mx_geti t38 d38_5 rfl fl5_13 h0) <|
  (mx_cge t38 d38_8 (tgt := 23) (by decide))
theorem b38_11 {d : Nat} {S : mm_S} {a0 : Nat} (h0 : mm_obj S a0 5 = true) (h1 : (mm_R S a0 1).isSome = true) (h2 : mm_inb (mm_M S a0 2) (mm_N S (mm_rg S a0 1)) = true) (h3 : mm_arr S (mm_rg S a0 1) 13 = true) : mm_ex d 38 11 [.ref a0] [] S =
    some (some (.int (mm_M S (mm_rg S a0 1) (mm_M S a0 2).toNatClampNeg)), S) :=
  Eq.trans (mx_aload_n t38 d38_11 (x := a0) rfl) <|
  Eq.trans (mx_getR t38 d38_12 rfl fl5_9 h0 h1) <|
  Eq.trans (mx_aload_n t38 d38_15 (x := a0) rfl) <|
  Eq.trans (mx_geti t38 d38_16 rfl fl5_26 h0) <|
  Eq.trans (mx_iald t38 d38_19 h3 h2) <|
  Eq.trans (mx_goto t38 d38_20 (tgt := 24) (by decide)) <|
  (mx_iret t38 d38_24 (ty := .int) rfl rfl (fun h => nomatch h))
theorem b38_23 {d : Nat} {S : mm_S} {a0 : Nat} : mm_ex d 38 23 [.ref a0] [] S =
    some (some (.int (nI 0)), S) :=
  Eq.trans (mx_iconst t38 d38_23 (v := nI 0) rfl) <|
  (mx_iret t38 d38_24 (ty := .int) rfl rfl (fun h => nomatch h))
theorem e38 {d : Nat} {S : mm_S} {a0 : Nat} : mm_cl d 38 [.ref a0] S = mm_ex d 38 0 [.ref a0] [] S := mm_cl_eq t38 (Nat.le_of_ble_eq_true rfl) rfl
/-! X5_word -/
theorem dd39_0 : (decode prog_7_method_6_code 0 = .ok (.iconst 0, 1)) ∧ (decode prog_7_method_6_code 1 = .ok (.istore_n 2, 1)) ∧ (decode prog_7_method_6_code 2 = .ok (.iload_n 2, 1)) ∧ (decode prog_7_method_6_code 3 = .ok (.aload_n 1, 1)) ∧ (decode prog_7_method_6_code 4 = .ok (.invokevirtual 39, 3)) ∧ (decode prog_7_method_6_code 7 = .ok (.if_icmp .ge 33, 3)) ∧ (decode prog_7_method_6_code 10 = .ok (.aload_n 0, 1)) ∧ (decode prog_7_method_6_code 11 = .ok (.invokevirtual 45, 3)) ∧ (decode prog_7_method_6_code 14 = .ok (.aload_n 1, 1)) ∧ (decode prog_7_method_6_code 15 = .ok (.iload_n 2, 1)) ∧ (decode prog_7_method_6_code 16 = .ok (.invokevirtual 48, 3)) ∧ (decode prog_7_method_6_code 19 = .ok (.if_icmp .eq 5, 3)) ∧ (decode prog_7_method_6_code 22 = .ok (.iconst 0, 1)) ∧ (decode prog_7_method_6_code 23 = .ok (.ireturn, 1)) ∧ (decode prog_7_method_6_code 24 = .ok (.aload_n 0, 1)) ∧ (decode prog_7_method_6_code 25 = .ok (.dup, 1)) := by decide +kernel
theorem d39_0 : decode prog_7_method_6_code 0 = .ok (.iconst 0, 1) := dd39_0.1
theorem d39_1 : decode prog_7_method_6_code 1 = .ok (.istore_n 2, 1) := dd39_0.2.1
theorem d39_2 : decode prog_7_method_6_code 2 = .ok (.iload_n 2, 1) := dd39_0.2.2.1
theorem d39_3 : decode prog_7_method_6_code 3 = .ok (.aload_n 1, 1) := dd39_0.2.2.2.1
theorem d39_4 : decode prog_7_method_6_code 4 = .ok (.invokevirtual 39, 3) := dd39_0.2.2.2.2.1
theorem d39_7 : decode prog_7_method_6_code 7 = .ok (.if_icmp .ge 33, 3) := dd39_0.2.2.2.2.2.1
theorem d39_10 : decode prog_7_method_6_code 10 = .ok (.aload_n 0, 1) := dd39_0.2.2.2.2.2.2.1
theorem d39_11 : decode prog_7_method_6_code 11 = .ok (.invokevirtual 45, 3) := dd39_0.2.2.2.2.2.2.2.1
theorem d39_14 : decode prog_7_method_6_code 14 = .ok (.aload_n 1, 1) := dd39_0.2.2.2.2.2.2.2.2.1
theorem d39_15 : decode prog_7_method_6_code 15 = .ok (.iload_n 2, 1) := dd39_0.2.2.2.2.2.2.2.2.2.1
theorem d39_16 : decode prog_7_method_6_code 16 = .ok (.invokevirtual 48, 3) := dd39_0.2.2.2.2.2.2.2.2.2.2.1
theorem d39_19 : decode prog_7_method_6_code 19 = .ok (.if_icmp .eq 5, 3) := dd39_0.2.2.2.2.2.2.2.2.2.2.2.1
theorem d39_22 : decode prog_7_method_6_code 22 = .ok (.iconst 0, 1) := dd39_0.2.2.2.2.2.2.2.2.2.2.2.2.1
theorem d39_23 : decode prog_7_method_6_code 23 = .ok (.ireturn, 1) := dd39_0.2.2.2.2.2.2.2.2.2.2.2.2.2.1
theorem d39_24 : decode prog_7_method_6_code 24 = .ok (.aload_n 0, 1) := dd39_0.2.2.2.2.2.2.2.2.2.2.2.2.2.2.1
theorem d39_25 : decode prog_7_method_6_code 25 = .ok (.dup, 1) := dd39_0.2.2.2.2.2.2.2.2.2.2.2.2.2.2.2
theorem dd39_26 : (decode prog_7_method_6_code 26 = .ok (.getfield 26, 3)) ∧ (decode prog_7_method_6_code 29 = .ok (.iconst 1, 1)) ∧ (decode prog_7_method_6_code 30 = .ok (.iadd, 1)) ∧ (decode prog_7_method_6_code 31 = .ok (.putfield 26, 3)) ∧ (decode prog_7_method_6_code 34 = .ok (.iinc 2 1, 3)) ∧ (decode prog_7_method_6_code 37 = .ok (.goto (-35), 3)) ∧ (decode prog_7_method_6_code 40 = .ok (.iconst 1, 1)) ∧ (decode prog_7_method_6_code 41 = .ok (.ireturn, 1)) := by decide +kernel
theorem d39_26 : decode prog_7_method_6_code 26 = .ok (.getfield 26, 3) := dd39_26.1
theorem d39_29 : decode prog_7_method_6_code 29 = .ok (.iconst 1, 1) := dd39_26.2.1
theorem d39_30 : decode prog_7_method_6_code 30 = .ok (.iadd, 1) := dd39_26.2.2.1
theorem d39_31 : decode prog_7_method_6_code 31 = .ok (.putfield 26, 3) := dd39_26.2.2.2.1
theorem d39_34 : decode prog_7_method_6_code 34 = .ok (.iinc 2 1, 3) := dd39_26.2.2.2.2.1
theorem d39_37 : decode prog_7_method_6_code 37 = .ok (.goto (-35), 3) := dd39_26.2.2.2.2.2.1
theorem d39_40 : decode prog_7_method_6_code 40 = .ok (.iconst 1, 1) := dd39_26.2.2.2.2.2.2.1
theorem d39_41 : decode prog_7_method_6_code 41 = .ok (.ireturn, 1) := dd39_26.2.2.2.2.2.2.2
theorem b39_0 {d : Nat} {S : mm_S} {a0 : Nat} {a1 : Nat} : mm_ex d 39 0 [.ref a0, .ref a1, .null] [] S =
    mm_ex d 39 2 [.ref a0, .ref a1, .int (nI 0)] [] S :=
  Eq.trans (mx_iconst t39 d39_0 (v := nI 0) rfl) <|
  (mx_istore_n t39 d39_1 (ls' := [.ref a0, .ref a1, .int (nI 0)]) rfl rfl)
theorem b39_2 {d : Nat} {S : mm_S} {a0 : Nat} {a1 : Nat} {x2 : Int32} (h0 : mm_rk S a1 = 100) : mm_ex (d + 1) 39 2 [.ref a0, .ref a1, .int x2] [] S =
    mm_bd (mm_cl d 212 [.ref a1] S) (fun v S2 => mm_ex (d + 1) 39 7 [.ref a0, .ref a1, .int x2] (v.toList ++ [.int x2]) S2) :=
  Eq.trans (mx_iload_n t39 d39_2 (x := x2) rfl) <|
  Eq.trans (mx_aload_n t39 d39_3 (x := a1) rfl) <|
  (mx_virt (st := [.int x2]) (k := 100) t39 [] d39_4 vt5_39 rfl rfl (Nat.le_of_ble_eq_true rfl) (Nat.le_of_ble_eq_true rfl) h0)
theorem b39_7 {d : Nat} {S : mm_S} {a0 : Nat} {a1 : Nat} {x2 : Int32} {p0 : Int32} {p1 : Int32} : mm_ex d 39 7 [.ref a0, .ref a1, .int x2] [.int p0, .int p1] S =
    if p0 ≤ p1 then mm_ex d 39 40 [.ref a0, .ref a1, .int x2] [] S else mm_ex d 39 10 [.ref a0, .ref a1, .int x2] [] S :=
  (mx_cge t39 d39_7 (tgt := 40) (by decide))
theorem b39_10 {d : Nat} {S : mm_S} {a0 : Nat} {a1 : Nat} {x2 : Int32} (h0 : mm_rk S a0 = 5) : mm_ex (d + 1) 39 10 [.ref a0, .ref a1, .int x2] [] S =
    mm_bd (mm_cl d 38 [.ref a0] S) (fun v S2 => mm_ex (d + 1) 39 14 [.ref a0, .ref a1, .int x2] (v.toList ++ []) S2) :=
  Eq.trans (mx_aload_n t39 d39_10 (x := a0) rfl) <|
  (mx_virt (st := []) (k := 5) t39 [] d39_11 vt5_45 rfl rfl (Nat.le_of_ble_eq_true rfl) (Nat.le_of_ble_eq_true rfl) h0)
theorem b39_14 {d : Nat} {S : mm_S} {a0 : Nat} {a1 : Nat} {x2 : Int32} {p0 : Int32} (h0 : mm_rk S a1 = 100) : mm_ex (d + 1) 39 14 [.ref a0, .ref a1, .int x2] [.int p0] S =
    mm_bd (mm_cl d 214 [.ref a1, .int x2] S) (fun v S2 => mm_ex (d + 1) 39 19 [.ref a0, .ref a1, .int x2] (v.toList ++ [.int p0]) S2) :=
  Eq.trans (mx_aload_n t39 d39_14 (x := a1) rfl) <|
  Eq.trans (mx_iload_n t39 d39_15 (x := x2) rfl) <|
  (mx_virt (st := [.int p0]) (k := 100) t39 [.int x2] d39_16 vt5_48 rfl rfl (Nat.le_of_ble_eq_true rfl) (Nat.le_of_ble_eq_true rfl) h0)
theorem b39_19 {d : Nat} {S : mm_S} {a0 : Nat} {a1 : Nat} {x2 : Int32} {p0 : Int32} {p1 : Int32} : mm_ex d 39 19 [.ref a0, .ref a1, .int x2] [.int p0, .int p1] S =
    if p1 = p0 then mm_ex d 39 24 [.ref a0, .ref a1, .int x2] [] S else mm_ex d 39 22 [.ref a0, .ref a1, .int x2] [] S :=
  (mx_ceq t39 d39_19 (tgt := 24) (by decide))
theorem b39_22 {d : Nat} {S : mm_S} {a0 : Nat} {a1 : Nat} {x2 : Int32} : mm_ex d 39 22 [.ref a0, .ref a1, .int x2] [] S =
    some (some (.int (nI 0)), S) :=
  Eq.trans (mx_iconst t39 d39_22 (v := nI 0) rfl) <|
  (mx_iret t39 d39_23 (ty := .boolean) rfl rfl (fun h => nomatch h))
theorem b39_24 {d : Nat} {S : mm_S} {a0 : Nat} {a1 : Nat} {x2 : Int32} (h0 : mm_obj S a0 5 = true) : mm_ex d 39 24 [.ref a0, .ref a1, .int x2] [] S =
    mm_ex d 39 2 [.ref a0, .ref a1, .int (x2 + nI 1)] [] (mm_uM S a0 2 ((mm_M S a0 2) + (nI 1))) :=
  Eq.trans (mx_aload_n t39 d39_24 (x := a0) rfl) <|
  Eq.trans (mx_dupr t39 d39_25) <|
  Eq.trans (mx_geti t39 d39_26 rfl fl5_26 h0) <|
  Eq.trans (mx_iconst t39 d39_29 (v := nI 1) rfl) <|
  Eq.trans (mx_iadd t39 d39_30) <|
  Eq.trans (mx_puti2 t39 d39_31 fl5_26 rfl h0) <|
  Eq.trans (mx_iinc t39 d39_34 (x := x2) (v := nI 1) (ls' := [.ref a0, .ref a1, .int (x2 + nI 1)]) rfl rfl rfl rfl) <|
  (mx_goto t39 d39_37 (tgt := 2) (by decide))
theorem b39_40 {d : Nat} {S : mm_S} {a0 : Nat} {a1 : Nat} {x2 : Int32} : mm_ex d 39 40 [.ref a0, .ref a1, .int x2] [] S =
    some (some (.int (nI 1)), S) :=
  Eq.trans (mx_iconst t39 d39_40 (v := nI 1) rfl) <|
  (mx_iret t39 d39_41 (ty := .boolean) rfl rfl (fun h => nomatch h))
theorem e39 {d : Nat} {S : mm_S} {a0 : Nat} {a1 : Nat} : mm_cl d 39 [.ref a0, .ref a1] S = mm_ex d 39 0 [.ref a0, .ref a1, .null] [] S := mm_cl_eq t39 (Nat.le_of_ble_eq_true rfl) rfl
/-! X5_wordOf -/
theorem d40_0 : decode prog_7_method_7_code 0 = .ok (.iload_n 0, 1) := by decide +kernel
theorem d40_1 : decode prog_7_method_7_code 1 = .ok (.lookupswitch 77 #[(97, 71), (99, 62), (100, 68), (102, 74), (109, 59), (117, 65)], 59) := by decide +kernel
theorem d40_60 : decode prog_7_method_7_code 60 = .ok (.ldc 52, 2) := by decide +kernel
theorem d40_62 : decode prog_7_method_7_code 62 = .ok (.areturn, 1) := by decide +kernel
theorem d40_63 : decode prog_7_method_7_code 63 = .ok (.ldc 54, 2) := by decide +kernel
theorem d40_65 : decode prog_7_method_7_code 65 = .ok (.areturn, 1) := by decide +kernel
theorem d40_66 : decode prog_7_method_7_code 66 = .ok (.ldc 56, 2) := by decide +kernel
theorem d40_68 : decode prog_7_method_7_code 68 = .ok (.areturn, 1) := by decide +kernel
theorem d40_69 : decode prog_7_method_7_code 69 = .ok (.ldc 58, 2) := by decide +kernel
theorem d40_71 : decode prog_7_method_7_code 71 = .ok (.areturn, 1) := by decide +kernel
theorem d40_72 : decode prog_7_method_7_code 72 = .ok (.ldc 60, 2) := by decide +kernel
theorem d40_74 : decode prog_7_method_7_code 74 = .ok (.areturn, 1) := by decide +kernel
theorem d40_75 : decode prog_7_method_7_code 75 = .ok (.ldc 62, 2) := by decide +kernel
theorem d40_77 : decode prog_7_method_7_code 77 = .ok (.areturn, 1) := by decide +kernel
theorem d40_78 : decode prog_7_method_7_code 78 = .ok (.ldc 64, 2) := by decide +kernel
theorem d40_80 : decode prog_7_method_7_code 80 = .ok (.areturn, 1) := by decide +kernel
theorem b40_0 {d : Nat} {S : mm_S} {x0 : Int32} : mm_ex d 40 0 [.int x0] [] S =
    mm_ex d 40 1 [.int x0] [.int x0] S :=
  (mx_iload_n t40 d40_0 (x := x0) rfl)
theorem b40_1 {d : Nat} {S : mm_S} {x0 : Int32} {p0 : Int32} : mm_ex d 40 1 [.int x0] [.int p0] S =
    if p0 = nI 97 then mm_ex d 40 72 [.int x0] [] S else if p0 = nI 99 then mm_ex d 40 63 [.int x0] [] S else if p0 = nI 100 then mm_ex d 40 69 [.int x0] [] S else if p0 = nI 102 then mm_ex d 40 75 [.int x0] [] S else if p0 = nI 109 then mm_ex d 40 60 [.int x0] [] S else if p0 = nI 117 then mm_ex d 40 66 [.int x0] [] S else mm_ex d 40 78 [.int x0] [] S := by
  by_cases e0 : p0 = nI 97
  · subst e0
    rw [if_pos rfl]
    exact mx_lsw t40 d40_1 (by decide) (by decide)
  by_cases e1 : p0 = nI 99
  · subst e1
    rw [if_neg (by decide), if_pos rfl]
    exact mx_lsw t40 d40_1 (by decide) (by decide)
  by_cases e2 : p0 = nI 100
  · subst e2
    rw [if_neg (by decide), if_neg (by decide), if_pos rfl]
    exact mx_lsw t40 d40_1 (by decide) (by decide)
  by_cases e3 : p0 = nI 102
  · subst e3
    rw [if_neg (by decide), if_neg (by decide), if_neg (by decide), if_pos rfl]
    exact mx_lsw t40 d40_1 (by decide) (by decide)
  by_cases e4 : p0 = nI 109
  · subst e4
    rw [if_neg (by decide), if_neg (by decide), if_neg (by decide), if_neg (by decide), if_pos rfl]
    exact mx_lsw t40 d40_1 (by decide) (by decide)
  by_cases e5 : p0 = nI 117
  · subst e5
    rw [if_neg (by decide), if_neg (by decide), if_neg (by decide), if_neg (by decide), if_neg (by decide), if_pos rfl]
    exact mx_lsw t40 d40_1 (by decide) (by decide)
  rw [if_neg e0, if_neg e1, if_neg e2, if_neg e3, if_neg e4, if_neg e5]
  have g0 := mm_ni32 e0
  have g1 := mm_ni32 e1
  have g2 := mm_ni32 e2
  have g3 := mm_ni32 e3
  have g4 := mm_ni32 e4
  have g5 := mm_ni32 e5
  rw [show (nI 97 : Int32).toInt = 97 by decide] at g0
  rw [show (nI 99 : Int32).toInt = 99 by decide] at g1
  rw [show (nI 100 : Int32).toInt = 100 by decide] at g2
  rw [show (nI 102 : Int32).toInt = 102 by decide] at g3
  rw [show (nI 109 : Int32).toInt = 109 by decide] at g4
  rw [show (nI 117 : Int32).toInt = 117 by decide] at g5
  exact mx_lsw t40 d40_1 (by decide) (by simp [Op.lookupswitch.offset, List.find?, g0, Ne.symm g0, g1, Ne.symm g1, g2, Ne.symm g2, g3, Ne.symm g3, g4, Ne.symm g4, g5, Ne.symm g5])
theorem b40_60 {d : Nat} {S : mm_S} {x0 : Int32} : mm_ex d 40 60 [.int x0] [] S =
    some (some (.ref 1000002), S) :=
  Eq.trans (mx_ldc t40 d40_60 (v := .ref 1000002) lc5_52) <|
  (mx_aret t40 d40_62 rfl)
theorem b40_63 {d : Nat} {S : mm_S} {x0 : Int32} : mm_ex d 40 63 [.int x0] [] S =
    some (some (.ref 1000004), S) :=
  Eq.trans (mx_ldc t40 d40_63 (v := .ref 1000004) lc5_54) <|
  (mx_aret t40 d40_65 rfl)
theorem b40_66 {d : Nat} {S : mm_S} {x0 : Int32} : mm_ex d 40 66 [.int x0] [] S =
    some (some (.ref 1000006), S) :=
  Eq.trans (mx_ldc t40 d40_66 (v := .ref 1000006) lc5_56) <|
  (mx_aret t40 d40_68 rfl)
theorem b40_69 {d : Nat} {S : mm_S} {x0 : Int32} : mm_ex d 40 69 [.int x0] [] S =
    some (some (.ref 1000008), S) :=
  Eq.trans (mx_ldc t40 d40_69 (v := .ref 1000008) lc5_58) <|
  (mx_aret t40 d40_71 rfl)
theorem b40_72 {d : Nat} {S : mm_S} {x0 : Int32} : mm_ex d 40 72 [.int x0] [] S =
    some (some (.ref 1000010), S) :=
  Eq.trans (mx_ldc t40 d40_72 (v := .ref 1000010) lc5_60) <|
  (mx_aret t40 d40_74 rfl)
theorem b40_75 {d : Nat} {S : mm_S} {x0 : Int32} : mm_ex d 40 75 [.int x0] [] S =
    some (some (.ref 1000012), S) :=
  Eq.trans (mx_ldc t40 d40_75 (v := .ref 1000012) lc5_62) <|
  (mx_aret t40 d40_77 rfl)
theorem b40_78 {d : Nat} {S : mm_S} {x0 : Int32} : mm_ex d 40 78 [.int x0] [] S =
    some (some (.ref 1000014), S) :=
  Eq.trans (mx_ldc t40 d40_78 (v := .ref 1000014) lc5_64) <|
  (mx_aret t40 d40_80 rfl)
theorem e40 {d : Nat} {S : mm_S} {x0 : Int32} : mm_cl d 40 [.int x0] S = mm_ex d 40 0 [.int x0] [] S := mm_cl_eq t40 (Nat.le_of_ble_eq_true rfl) rfl
/-! X5_clause -/
theorem dd41_0 : (decode prog_7_method_8_code 0 = .ok (.aload_n 0, 1)) ∧ (decode prog_7_method_8_code 1 = .ok (.invokevirtual 45, 3)) ∧ (decode prog_7_method_8_code 4 = .ok (.istore_n 1, 1)) ∧ (decode prog_7_method_8_code 5 = .ok (.iload_n 1, 1)) ∧ (decode prog_7_method_8_code 6 = .ok (.invokestatic 66, 3)) ∧ (decode prog_7_method_8_code 9 = .ok (.astore_n 2, 1)) ∧ (decode prog_7_method_8_code 10 = .ok (.aload_n 2, 1)) ∧ (decode prog_7_method_8_code 11 = .ok (.invokevirtual 70, 3)) ∧ (decode prog_7_method_8_code 14 = .ok (.ifCond .ne 11, 3)) ∧ (decode prog_7_method_8_code 17 = .ok (.aload_n 0, 1)) ∧ (decode prog_7_method_8_code 18 = .ok (.aload_n 2, 1)) ∧ (decode prog_7_method_8_code 19 = .ok (.invokevirtual 35, 3)) ∧ (decode prog_7_method_8_code 22 = .ok (.ifCond .ne 5, 3)) ∧ (decode prog_7_method_8_code 25 = .ok (.iconst 0, 1)) ∧ (decode prog_7_method_8_code 26 = .ok (.ireturn, 1)) ∧ (decode prog_7_method_8_code 27 = .ok (.aload_n 0, 1)) := by decide +kernel
theorem d41_0 : decode prog_7_method_8_code 0 = .ok (.aload_n 0, 1) := dd41_0.1
theorem d41_1 : decode prog_7_method_8_code 1 = .ok (.invokevirtual 45, 3) := dd41_0.2.1
theorem d41_4 : decode prog_7_method_8_code 4 = .ok (.istore_n 1, 1) := dd41_0.2.2.1
theorem d41_5 : decode prog_7_method_8_code 5 = .ok (.iload_n 1, 1) := dd41_0.2.2.2.1
theorem d41_6 : decode prog_7_method_8_code 6 = .ok (.invokestatic 66, 3) := dd41_0.2.2.2.2.1
theorem d41_9 : decode prog_7_method_8_code 9 = .ok (.astore_n 2, 1) := dd41_0.2.2.2.2.2.1
theorem d41_10 : decode prog_7_method_8_code 10 = .ok (.aload_n 2, 1) := dd41_0.2.2.2.2.2.2.1
theorem d41_11 : decode prog_7_method_8_code 11 = .ok (.invokevirtual 70, 3) := dd41_0.2.2.2.2.2.2.2.1
theorem d41_14 : decode prog_7_method_8_code 14 = .ok (.ifCond .ne 11, 3) := dd41_0.2.2.2.2.2.2.2.2.1
theorem d41_17 : decode prog_7_method_8_code 17 = .ok (.aload_n 0, 1) := dd41_0.2.2.2.2.2.2.2.2.2.1
theorem d41_18 : decode prog_7_method_8_code 18 = .ok (.aload_n 2, 1) := dd41_0.2.2.2.2.2.2.2.2.2.2.1
theorem d41_19 : decode prog_7_method_8_code 19 = .ok (.invokevirtual 35, 3) := dd41_0.2.2.2.2.2.2.2.2.2.2.2.1
theorem d41_22 : decode prog_7_method_8_code 22 = .ok (.ifCond .ne 5, 3) := dd41_0.2.2.2.2.2.2.2.2.2.2.2.2.1
theorem d41_25 : decode prog_7_method_8_code 25 = .ok (.iconst 0, 1) := dd41_0.2.2.2.2.2.2.2.2.2.2.2.2.2.1
theorem d41_26 : decode prog_7_method_8_code 26 = .ok (.ireturn, 1) := dd41_0.2.2.2.2.2.2.2.2.2.2.2.2.2.2.1
theorem d41_27 : decode prog_7_method_8_code 27 = .ok (.aload_n 0, 1) := dd41_0.2.2.2.2.2.2.2.2.2.2.2.2.2.2.2
theorem dd41_28 : (decode prog_7_method_8_code 28 = .ok (.invokevirtual 73, 3)) ∧ (decode prog_7_method_8_code 31 = .ok (.istore_n 3, 1)) ∧ (decode prog_7_method_8_code 32 = .ok (.iload_n 3, 1)) ∧ (decode prog_7_method_8_code 33 = .ok (.ifCond .ge 5, 3)) ∧ (decode prog_7_method_8_code 36 = .ok (.iconst 0, 1)) ∧ (decode prog_7_method_8_code 37 = .ok (.ireturn, 1)) ∧ (decode prog_7_method_8_code 38 = .ok (.iload_n 1, 1)) ∧ (decode prog_7_method_8_code 39 = .ok (.lookupswitch 124 #[(97, 109), (99, 49), (100, 99), (109, 49), (117, 89)], 49)) ∧ (decode prog_7_method_8_code 88 = .ok (.aload_n 0, 1)) ∧ (decode prog_7_method_8_code 89 = .ok (.ldc 76, 2)) ∧ (decode prog_7_method_8_code 91 = .ok (.invokevirtual 35, 3)) ∧ (decode prog_7_method_8_code 94 = .ok (.ifCond .eq 11, 3)) ∧ (decode prog_7_method_8_code 97 = .ok (.aload_n 0, 1)) ∧ (decode prog_7_method_8_code 98 = .ok (.iconst 0, 1)) ∧ (decode prog_7_method_8_code 99 = .ok (.invokevirtual 78, 3)) ∧ (decode prog_7_method_8_code 102 = .ok (.ifCond .ne 5, 3)) := by decide +kernel
theorem d41_28 : decode prog_7_method_8_code 28 = .ok (.invokevirtual 73, 3) := dd41_28.1
theorem d41_31 : decode prog_7_method_8_code 31 = .ok (.istore_n 3, 1) := dd41_28.2.1
theorem d41_32 : decode prog_7_method_8_code 32 = .ok (.iload_n 3, 1) := dd41_28.2.2.1
theorem d41_33 : decode prog_7_method_8_code 33 = .ok (.ifCond .ge 5, 3) := dd41_28.2.2.2.1
theorem d41_36 : decode prog_7_method_8_code 36 = .ok (.iconst 0, 1) := dd41_28.2.2.2.2.1
theorem d41_37 : decode prog_7_method_8_code 37 = .ok (.ireturn, 1) := dd41_28.2.2.2.2.2.1
theorem d41_38 : decode prog_7_method_8_code 38 = .ok (.iload_n 1, 1) := dd41_28.2.2.2.2.2.2.1
theorem d41_39 : decode prog_7_method_8_code 39 = .ok (.lookupswitch 124 #[(97, 109), (99, 49), (100, 99), (109, 49), (117, 89)], 49) := dd41_28.2.2.2.2.2.2.2.1
theorem d41_88 : decode prog_7_method_8_code 88 = .ok (.aload_n 0, 1) := dd41_28.2.2.2.2.2.2.2.2.1
theorem d41_89 : decode prog_7_method_8_code 89 = .ok (.ldc 76, 2) := dd41_28.2.2.2.2.2.2.2.2.2.1
theorem d41_91 : decode prog_7_method_8_code 91 = .ok (.invokevirtual 35, 3) := dd41_28.2.2.2.2.2.2.2.2.2.2.1
theorem d41_94 : decode prog_7_method_8_code 94 = .ok (.ifCond .eq 11, 3) := dd41_28.2.2.2.2.2.2.2.2.2.2.2.1
theorem d41_97 : decode prog_7_method_8_code 97 = .ok (.aload_n 0, 1) := dd41_28.2.2.2.2.2.2.2.2.2.2.2.2.1
theorem d41_98 : decode prog_7_method_8_code 98 = .ok (.iconst 0, 1) := dd41_28.2.2.2.2.2.2.2.2.2.2.2.2.2.1
theorem d41_99 : decode prog_7_method_8_code 99 = .ok (.invokevirtual 78, 3) := dd41_28.2.2.2.2.2.2.2.2.2.2.2.2.2.2.1
theorem d41_102 : decode prog_7_method_8_code 102 = .ok (.ifCond .ne 5, 3) := dd41_28.2.2.2.2.2.2.2.2.2.2.2.2.2.2.2
theorem dd41_105 : (decode prog_7_method_8_code 105 = .ok (.iconst 0, 1)) ∧ (decode prog_7_method_8_code 106 = .ok (.ireturn, 1)) ∧ (decode prog_7_method_8_code 107 = .ok (.aload_n 0, 1)) ∧ (decode prog_7_method_8_code 108 = .ok (.getfield 17, 3)) ∧ (decode prog_7_method_8_code 111 = .ok (.iload_n 1, 1)) ∧ (decode prog_7_method_8_code 112 = .ok (.bipush 109, 2)) ∧ (decode prog_7_method_8_code 114 = .ok (.if_icmp .ne 7, 3)) ∧ (decode prog_7_method_8_code 117 = .ok (.iconst 0, 1)) ∧ (decode prog_7_method_8_code 118 = .ok (.goto 4, 3)) ∧ (decode prog_7_method_8_code 121 = .ok (.iconst 1, 1)) ∧ (decode prog_7_method_8_code 122 = .ok (.iload_n 3, 1)) ∧ (decode prog_7_method_8_code 123 = .ok (.invokevirtual 82, 3)) ∧ (decode prog_7_method_8_code 126 = .ok (.iconst 1, 1)) ∧ (decode prog_7_method_8_code 127 = .ok (.ireturn, 1)) ∧ (decode prog_7_method_8_code 128 = .ok (.aload_n 0, 1)) ∧ (decode prog_7_method_8_code 129 = .ok (.getfield 17, 3)) := by decide +kernel
theorem d41_105 : decode prog_7_method_8_code 105 = .ok (.iconst 0, 1) := dd41_105.1
theorem d41_106 : decode prog_7_method_8_code 106 = .ok (.ireturn, 1) := dd41_105.2.1
theorem d41_107 : decode prog_7_method_8_code 107 = .ok (.aload_n 0, 1) := dd41_105.2.2.1
theorem d41_108 : decode prog_7_method_8_code 108 = .ok (.getfield 17, 3) := dd41_105.2.2.2.1
theorem d41_111 : decode prog_7_method_8_code 111 = .ok (.iload_n 1, 1) := dd41_105.2.2.2.2.1
theorem d41_112 : decode prog_7_method_8_code 112 = .ok (.bipush 109, 2) := dd41_105.2.2.2.2.2.1
theorem d41_114 : decode prog_7_method_8_code 114 = .ok (.if_icmp .ne 7, 3) := dd41_105.2.2.2.2.2.2.1
theorem d41_117 : decode prog_7_method_8_code 117 = .ok (.iconst 0, 1) := dd41_105.2.2.2.2.2.2.2.1
theorem d41_118 : decode prog_7_method_8_code 118 = .ok (.goto 4, 3) := dd41_105.2.2.2.2.2.2.2.2.1
theorem d41_121 : decode prog_7_method_8_code 121 = .ok (.iconst 1, 1) := dd41_105.2.2.2.2.2.2.2.2.2.1
theorem d41_122 : decode prog_7_method_8_code 122 = .ok (.iload_n 3, 1) := dd41_105.2.2.2.2.2.2.2.2.2.2.1
theorem d41_123 : decode prog_7_method_8_code 123 = .ok (.invokevirtual 82, 3) := dd41_105.2.2.2.2.2.2.2.2.2.2.2.1
theorem d41_126 : decode prog_7_method_8_code 126 = .ok (.iconst 1, 1) := dd41_105.2.2.2.2.2.2.2.2.2.2.2.2.1
theorem d41_127 : decode prog_7_method_8_code 127 = .ok (.ireturn, 1) := dd41_105.2.2.2.2.2.2.2.2.2.2.2.2.2.1
theorem d41_128 : decode prog_7_method_8_code 128 = .ok (.aload_n 0, 1) := dd41_105.2.2.2.2.2.2.2.2.2.2.2.2.2.2.1
theorem d41_129 : decode prog_7_method_8_code 129 = .ok (.getfield 17, 3) := dd41_105.2.2.2.2.2.2.2.2.2.2.2.2.2.2.2
theorem dd41_132 : (decode prog_7_method_8_code 132 = .ok (.iload_n 3, 1)) ∧ (decode prog_7_method_8_code 133 = .ok (.putfield 86, 3)) ∧ (decode prog_7_method_8_code 136 = .ok (.iconst 1, 1)) ∧ (decode prog_7_method_8_code 137 = .ok (.ireturn, 1)) ∧ (decode prog_7_method_8_code 138 = .ok (.aload_n 0, 1)) ∧ (decode prog_7_method_8_code 139 = .ok (.getfield 17, 3)) ∧ (decode prog_7_method_8_code 142 = .ok (.iload_n 3, 1)) ∧ (decode prog_7_method_8_code 143 = .ok (.putfield 89, 3)) ∧ (decode prog_7_method_8_code 146 = .ok (.iconst 1, 1)) ∧ (decode prog_7_method_8_code 147 = .ok (.ireturn, 1)) ∧ (decode prog_7_method_8_code 148 = .ok (.aload_n 0, 1)) ∧ (decode prog_7_method_8_code 149 = .ok (.getfield 17, 3)) ∧ (decode prog_7_method_8_code 152 = .ok (.iload_n 3, 1)) ∧ (decode prog_7_method_8_code 153 = .ok (.bipush 9, 2)) ∧ (decode prog_7_method_8_code 155 = .ok (.invokestatic 92, 3)) ∧ (decode prog_7_method_8_code 158 = .ok (.putfield 98, 3)) := by decide +kernel
theorem d41_132 : decode prog_7_method_8_code 132 = .ok (.iload_n 3, 1) := dd41_132.1
theorem d41_133 : decode prog_7_method_8_code 133 = .ok (.putfield 86, 3) := dd41_132.2.1
theorem d41_136 : decode prog_7_method_8_code 136 = .ok (.iconst 1, 1) := dd41_132.2.2.1
theorem d41_137 : decode prog_7_method_8_code 137 = .ok (.ireturn, 1) := dd41_132.2.2.2.1
theorem d41_138 : decode prog_7_method_8_code 138 = .ok (.aload_n 0, 1) := dd41_132.2.2.2.2.1
theorem d41_139 : decode prog_7_method_8_code 139 = .ok (.getfield 17, 3) := dd41_132.2.2.2.2.2.1
theorem d41_142 : decode prog_7_method_8_code 142 = .ok (.iload_n 3, 1) := dd41_132.2.2.2.2.2.2.1
theorem d41_143 : decode prog_7_method_8_code 143 = .ok (.putfield 89, 3) := dd41_132.2.2.2.2.2.2.2.1
theorem d41_146 : decode prog_7_method_8_code 146 = .ok (.iconst 1, 1) := dd41_132.2.2.2.2.2.2.2.2.1
theorem d41_147 : decode prog_7_method_8_code 147 = .ok (.ireturn, 1) := dd41_132.2.2.2.2.2.2.2.2.2.1
theorem d41_148 : decode prog_7_method_8_code 148 = .ok (.aload_n 0, 1) := dd41_132.2.2.2.2.2.2.2.2.2.2.1
theorem d41_149 : decode prog_7_method_8_code 149 = .ok (.getfield 17, 3) := dd41_132.2.2.2.2.2.2.2.2.2.2.2.1
theorem d41_152 : decode prog_7_method_8_code 152 = .ok (.iload_n 3, 1) := dd41_132.2.2.2.2.2.2.2.2.2.2.2.2.1
theorem d41_153 : decode prog_7_method_8_code 153 = .ok (.bipush 9, 2) := dd41_132.2.2.2.2.2.2.2.2.2.2.2.2.2.1
theorem d41_155 : decode prog_7_method_8_code 155 = .ok (.invokestatic 92, 3) := dd41_132.2.2.2.2.2.2.2.2.2.2.2.2.2.2.1
theorem d41_158 : decode prog_7_method_8_code 158 = .ok (.putfield 98, 3) := dd41_132.2.2.2.2.2.2.2.2.2.2.2.2.2.2.2
theorem dd41_161 : (decode prog_7_method_8_code 161 = .ok (.iconst 1, 1)) ∧ (decode prog_7_method_8_code 162 = .ok (.ireturn, 1)) ∧ (decode prog_7_method_8_code 163 = .ok (.aload_n 0, 1)) ∧ (decode prog_7_method_8_code 164 = .ok (.getfield 17, 3)) ∧ (decode prog_7_method_8_code 167 = .ok (.iload_n 3, 1)) ∧ (decode prog_7_method_8_code 168 = .ok (.putfield 101, 3)) ∧ (decode prog_7_method_8_code 171 = .ok (.iconst 1, 1)) ∧ (decode prog_7_method_8_code 172 = .ok (.ireturn, 1)) := by decide +kernel
theorem d41_161 : decode prog_7_method_8_code 161 = .ok (.iconst 1, 1) := dd41_161.1
theorem d41_162 : decode prog_7_method_8_code 162 = .ok (.ireturn, 1) := dd41_161.2.1
theorem d41_163 : decode prog_7_method_8_code 163 = .ok (.aload_n 0, 1) := dd41_161.2.2.1
theorem d41_164 : decode prog_7_method_8_code 164 = .ok (.getfield 17, 3) := dd41_161.2.2.2.1
theorem d41_167 : decode prog_7_method_8_code 167 = .ok (.iload_n 3, 1) := dd41_161.2.2.2.2.1
theorem d41_168 : decode prog_7_method_8_code 168 = .ok (.putfield 101, 3) := dd41_161.2.2.2.2.2.1
theorem d41_171 : decode prog_7_method_8_code 171 = .ok (.iconst 1, 1) := dd41_161.2.2.2.2.2.2.1
theorem d41_172 : decode prog_7_method_8_code 172 = .ok (.ireturn, 1) := dd41_161.2.2.2.2.2.2.2
theorem b41_0 {d : Nat} {S : mm_S} {a0 : Nat} (h0 : mm_rk S a0 = 5) : mm_ex (d + 1) 41 0 [.ref a0, .null, .null, .null] [] S =
    mm_bd (mm_cl d 38 [.ref a0] S) (fun v S2 => mm_ex (d + 1) 41 4 [.ref a0, .null, .null, .null] (v.toList ++ []) S2) :=
  Eq.trans (mx_aload_n t41 d41_0 (x := a0) rfl) <|
  (mx_virt (st := []) (k := 5) t41 [] d41_1 vt5_45 rfl rfl (Nat.le_of_ble_eq_true rfl) (Nat.le_of_ble_eq_true rfl) h0)
theorem b41_4 {d : Nat} {S : mm_S} {a0 : Nat} {p0 : Int32} : mm_ex (d + 1) 41 4 [.ref a0, .null, .null, .null] [.int p0] S =
    mm_bd (mm_cl d 40 [.int p0] S) (fun v S2 => mm_ex (d + 1) 41 9 [.ref a0, .int p0, .null, .null] (v.toList ++ []) S2) :=
  Eq.trans (mx_istore_n t41 d41_4 (ls' := [.ref a0, .int p0, .null, .null]) rfl rfl) <|
  Eq.trans (mx_iload_n t41 d41_5 (x := p0) rfl) <|
  (mx_stat (st := []) t41 [.int p0] d41_6 acn5_66 mxn5_66 st5_66 rfl (Nat.le_of_ble_eq_true rfl) (Nat.le_of_ble_eq_true rfl))
theorem b41_9 {d : Nat} {S : mm_S} {a0 : Nat} {x1 : Int32} {p0 : Nat} (h0 : mm_rk S p0 = 100) : mm_ex (d + 1) 41 9 [.ref a0, .int x1, .null, .null] [.ref p0] S =
    mm_bd (mm_cl d 213 [.ref p0] S) (fun v S2 => mm_ex (d + 1) 41 14 [.ref a0, .int x1, .ref p0, .null] (v.toList ++ []) S2) :=
  Eq.trans (mx_astore_n t41 d41_9 (ls' := [.ref a0, .int x1, .ref p0, .null]) rfl rfl) <|
  Eq.trans (mx_aload_n t41 d41_10 (x := p0) rfl) <|
  (mx_virt (st := []) (k := 100) t41 [] d41_11 vt5_70 rfl rfl (Nat.le_of_ble_eq_true rfl) (Nat.le_of_ble_eq_true rfl) h0)
theorem b41_14 {d : Nat} {S : mm_S} {a0 : Nat} {x1 : Int32} {a2 : Nat} {p0 : Int32} : mm_ex d 41 14 [.ref a0, .int x1, .ref a2, .null] [.int p0] S =
    if p0 = nI 0 then mm_ex d 41 17 [.ref a0, .int x1, .ref a2, .null] [] S else mm_ex d 41 25 [.ref a0, .int x1, .ref a2, .null] [] S :=
  (mx_ine t41 d41_14 (tgt := 25) (by decide))
theorem b41_17 {d : Nat} {S : mm_S} {a0 : Nat} {x1 : Int32} {a2 : Nat} (h0 : mm_rk S a0 = 5) : mm_ex (d + 1) 41 17 [.ref a0, .int x1, .ref a2, .null] [] S =
    mm_bd (mm_cl d 39 [.ref a0, .ref a2] S) (fun v S2 => mm_ex (d + 1) 41 22 [.ref a0, .int x1, .ref a2, .null] (v.toList ++ []) S2) :=
  Eq.trans (mx_aload_n t41 d41_17 (x := a0) rfl) <|
  Eq.trans (mx_aload_n t41 d41_18 (x := a2) rfl) <|
  (mx_virt (st := []) (k := 5) t41 [.ref a2] d41_19 vt5_35 rfl rfl (Nat.le_of_ble_eq_true rfl) (Nat.le_of_ble_eq_true rfl) h0)
theorem b41_22 {d : Nat} {S : mm_S} {a0 : Nat} {x1 : Int32} {a2 : Nat} {p0 : Int32} : mm_ex d 41 22 [.ref a0, .int x1, .ref a2, .null] [.int p0] S =
    if p0 = nI 0 then mm_ex d 41 25 [.ref a0, .int x1, .ref a2, .null] [] S else mm_ex d 41 27 [.ref a0, .int x1, .ref a2, .null] [] S :=
  (mx_ine t41 d41_22 (tgt := 27) (by decide))
theorem b41_25 {d : Nat} {S : mm_S} {a0 : Nat} {x1 : Int32} {a2 : Nat} : mm_ex d 41 25 [.ref a0, .int x1, .ref a2, .null] [] S =
    some (some (.int (nI 0)), S) :=
  Eq.trans (mx_iconst t41 d41_25 (v := nI 0) rfl) <|
  (mx_iret t41 d41_26 (ty := .boolean) rfl rfl (fun h => nomatch h))
theorem b41_27 {d : Nat} {S : mm_S} {a0 : Nat} {x1 : Int32} {a2 : Nat} (h0 : mm_rk S a0 = 5) : mm_ex (d + 1) 41 27 [.ref a0, .int x1, .ref a2, .null] [] S =
    mm_bd (mm_cl d 46 [.ref a0] S) (fun v S2 => mm_ex (d + 1) 41 31 [.ref a0, .int x1, .ref a2, .null] (v.toList ++ []) S2) :=
  Eq.trans (mx_aload_n t41 d41_27 (x := a0) rfl) <|
  (mx_virt (st := []) (k := 5) t41 [] d41_28 vt5_73 rfl rfl (Nat.le_of_ble_eq_true rfl) (Nat.le_of_ble_eq_true rfl) h0)
theorem b41_31 {d : Nat} {S : mm_S} {a0 : Nat} {x1 : Int32} {a2 : Nat} {p0 : Int32} : mm_ex d 41 31 [.ref a0, .int x1, .ref a2, .null] [.int p0] S =
    if nI 0 ≤ p0 then mm_ex d 41 38 [.ref a0, .int x1, .ref a2, .int p0] [] S else mm_ex d 41 36 [.ref a0, .int x1, .ref a2, .int p0] [] S :=
  Eq.trans (mx_istore_n t41 d41_31 (ls' := [.ref a0, .int x1, .ref a2, .int p0]) rfl rfl) <|
  Eq.trans (mx_iload_n t41 d41_32 (x := p0) rfl) <|
  (mx_ige t41 d41_33 (tgt := 38) (by decide))
theorem b41_36 {d : Nat} {S : mm_S} {a0 : Nat} {x1 : Int32} {a2 : Nat} {x3 : Int32} : mm_ex d 41 36 [.ref a0, .int x1, .ref a2, .int x3] [] S =
    some (some (.int (nI 0)), S) :=
  Eq.trans (mx_iconst t41 d41_36 (v := nI 0) rfl) <|
  (mx_iret t41 d41_37 (ty := .boolean) rfl rfl (fun h => nomatch h))
theorem b41_38 {d : Nat} {S : mm_S} {a0 : Nat} {x1 : Int32} {a2 : Nat} {x3 : Int32} : mm_ex d 41 38 [.ref a0, .int x1, .ref a2, .int x3] [] S =
    mm_ex d 41 39 [.ref a0, .int x1, .ref a2, .int x3] [.int x1] S :=
  (mx_iload_n t41 d41_38 (x := x1) rfl)
theorem b41_39 {d : Nat} {S : mm_S} {a0 : Nat} {x1 : Int32} {a2 : Nat} {x3 : Int32} {p0 : Int32} : mm_ex d 41 39 [.ref a0, .int x1, .ref a2, .int x3] [.int p0] S =
    if p0 = nI 97 then mm_ex d 41 148 [.ref a0, .int x1, .ref a2, .int x3] [] S else if p0 = nI 99 then mm_ex d 41 88 [.ref a0, .int x1, .ref a2, .int x3] [] S else if p0 = nI 100 then mm_ex d 41 138 [.ref a0, .int x1, .ref a2, .int x3] [] S else if p0 = nI 109 then mm_ex d 41 88 [.ref a0, .int x1, .ref a2, .int x3] [] S else if p0 = nI 117 then mm_ex d 41 128 [.ref a0, .int x1, .ref a2, .int x3] [] S else mm_ex d 41 163 [.ref a0, .int x1, .ref a2, .int x3] [] S := by
  by_cases e0 : p0 = nI 97
  · subst e0
    rw [if_pos rfl]
    exact mx_lsw t41 d41_39 (by decide) (by decide)
  by_cases e1 : p0 = nI 99
  · subst e1
    rw [if_neg (by decide), if_pos rfl]
    exact mx_lsw t41 d41_39 (by decide) (by decide)
  by_cases e2 : p0 = nI 100
  · subst e2
    rw [if_neg (by decide), if_neg (by decide), if_pos rfl]
    exact mx_lsw t41 d41_39 (by decide) (by decide)
  by_cases e3 : p0 = nI 109
  · subst e3
    rw [if_neg (by decide), if_neg (by decide), if_neg (by decide), if_pos rfl]
    exact mx_lsw t41 d41_39 (by decide) (by decide)
  by_cases e4 : p0 = nI 117
  · subst e4
    rw [if_neg (by decide), if_neg (by decide), if_neg (by decide), if_neg (by decide), if_pos rfl]
    exact mx_lsw t41 d41_39 (by decide) (by decide)
  rw [if_neg e0, if_neg e1, if_neg e2, if_neg e3, if_neg e4]
  have g0 := mm_ni32 e0
  have g1 := mm_ni32 e1
  have g2 := mm_ni32 e2
  have g3 := mm_ni32 e3
  have g4 := mm_ni32 e4
  rw [show (nI 97 : Int32).toInt = 97 by decide] at g0
  rw [show (nI 99 : Int32).toInt = 99 by decide] at g1
  rw [show (nI 100 : Int32).toInt = 100 by decide] at g2
  rw [show (nI 109 : Int32).toInt = 109 by decide] at g3
  rw [show (nI 117 : Int32).toInt = 117 by decide] at g4
  exact mx_lsw t41 d41_39 (by decide) (by simp [Op.lookupswitch.offset, List.find?, g0, Ne.symm g0, g1, Ne.symm g1, g2, Ne.symm g2, g3, Ne.symm g3, g4, Ne.symm g4])
theorem b41_88 {d : Nat} {S : mm_S} {a0 : Nat} {x1 : Int32} {a2 : Nat} {x3 : Int32} (h0 : mm_rk S a0 = 5) : mm_ex (d + 1) 41 88 [.ref a0, .int x1, .ref a2, .int x3] [] S =
    mm_bd (mm_cl d 39 [.ref a0, .ref 1000016] S) (fun v S2 => mm_ex (d + 1) 41 94 [.ref a0, .int x1, .ref a2, .int x3] (v.toList ++ []) S2) :=
  Eq.trans (mx_aload_n t41 d41_88 (x := a0) rfl) <|
  Eq.trans (mx_ldc t41 d41_89 (v := .ref 1000016) lc5_76) <|
  (mx_virt (st := []) (k := 5) t41 [.ref 1000016] d41_91 vt5_35 rfl rfl (Nat.le_of_ble_eq_true rfl) (Nat.le_of_ble_eq_true rfl) h0)
theorem b41_94 {d : Nat} {S : mm_S} {a0 : Nat} {x1 : Int32} {a2 : Nat} {x3 : Int32} {p0 : Int32} : mm_ex d 41 94 [.ref a0, .int x1, .ref a2, .int x3] [.int p0] S =
    if p0 = nI 0 then mm_ex d 41 105 [.ref a0, .int x1, .ref a2, .int x3] [] S else mm_ex d 41 97 [.ref a0, .int x1, .ref a2, .int x3] [] S :=
  (mx_ieq t41 d41_94 (tgt := 105) (by decide))
theorem b41_97 {d : Nat} {S : mm_S} {a0 : Nat} {x1 : Int32} {a2 : Nat} {x3 : Int32} (h0 : mm_rk S a0 = 5) : mm_ex (d + 1) 41 97 [.ref a0, .int x1, .ref a2, .int x3] [] S =
    mm_bd (mm_cl d 42 [.ref a0, .int (nI 0)] S) (fun v S2 => mm_ex (d + 1) 41 102 [.ref a0, .int x1, .ref a2, .int x3] (v.toList ++ []) S2) :=
  Eq.trans (mx_aload_n t41 d41_97 (x := a0) rfl) <|
  Eq.trans (mx_iconst t41 d41_98 (v := nI 0) rfl) <|
  (mx_virt (st := []) (k := 5) t41 [.int (nI 0)] d41_99 vt5_78 rfl rfl (Nat.le_of_ble_eq_true rfl) (Nat.le_of_ble_eq_true rfl) h0)
theorem b41_102 {d : Nat} {S : mm_S} {a0 : Nat} {x1 : Int32} {a2 : Nat} {x3 : Int32} {p0 : Int32} : mm_ex d 41 102 [.ref a0, .int x1, .ref a2, .int x3] [.int p0] S =
    if p0 = nI 0 then mm_ex d 41 105 [.ref a0, .int x1, .ref a2, .int x3] [] S else mm_ex d 41 107 [.ref a0, .int x1, .ref a2, .int x3] [] S :=
  (mx_ine t41 d41_102 (tgt := 107) (by decide))
theorem b41_105 {d : Nat} {S : mm_S} {a0 : Nat} {x1 : Int32} {a2 : Nat} {x3 : Int32} : mm_ex d 41 105 [.ref a0, .int x1, .ref a2, .int x3] [] S =
    some (some (.int (nI 0)), S) :=
  Eq.trans (mx_iconst t41 d41_105 (v := nI 0) rfl) <|
  (mx_iret t41 d41_106 (ty := .boolean) rfl rfl (fun h => nomatch h))
theorem b41_107 {d : Nat} {S : mm_S} {a0 : Nat} {x1 : Int32} {a2 : Nat} {x3 : Int32} (h0 : mm_obj S a0 5 = true) (h1 : (mm_R S a0 3).isSome = true) : mm_ex d 41 107 [.ref a0, .int x1, .ref a2, .int x3] [] S =
    if x1 = (nI 109) then mm_ex d 41 117 [.ref a0, .int x1, .ref a2, .int x3] [.ref (mm_rg S a0 3)] S else mm_ex d 41 121 [.ref a0, .int x1, .ref a2, .int x3] [.ref (mm_rg S a0 3)] S :=
  Eq.trans (mx_aload_n t41 d41_107 (x := a0) rfl) <|
  Eq.trans (mx_getR t41 d41_108 rfl fl5_17 h0 h1) <|
  Eq.trans (mx_iload_n t41 d41_111 (x := x1) rfl) <|
  Eq.trans (mx_bipush t41 d41_112 (v := nI 109) rfl) <|
  (mx_cne t41 d41_114 (tgt := 121) (by decide))
theorem b41_117 {d : Nat} {S : mm_S} {a0 : Nat} {x1 : Int32} {a2 : Nat} {x3 : Int32} {p0 : Nat} (h0 : mm_rk S p0 = 6) : mm_ex (d + 1) 41 117 [.ref a0, .int x1, .ref a2, .int x3] [.ref p0] S =
    mm_bd (mm_cl d 51 [.ref p0, .int (nI 0), .int x3] S) (fun v S2 => mm_ex (d + 1) 41 126 [.ref a0, .int x1, .ref a2, .int x3] (v.toList ++ []) S2) :=
  Eq.trans (mx_iconst t41 d41_117 (v := nI 0) rfl) <|
  Eq.trans (mx_goto t41 d41_118 (tgt := 122) (by decide)) <|
  Eq.trans (mx_iload_n t41 d41_122 (x := x3) rfl) <|
  (mx_virt (st := []) (k := 6) t41 [.int (nI 0), .int x3] d41_123 vt5_82 rfl rfl (Nat.le_of_ble_eq_true rfl) (Nat.le_of_ble_eq_true rfl) h0)
theorem b41_121 {d : Nat} {S : mm_S} {a0 : Nat} {x1 : Int32} {a2 : Nat} {x3 : Int32} {p0 : Nat} (h0 : mm_rk S p0 = 6) : mm_ex (d + 1) 41 121 [.ref a0, .int x1, .ref a2, .int x3] [.ref p0] S =
    mm_bd (mm_cl d 51 [.ref p0, .int (nI 1), .int x3] S) (fun v S2 => mm_ex (d + 1) 41 126 [.ref a0, .int x1, .ref a2, .int x3] (v.toList ++ []) S2) :=
  Eq.trans (mx_iconst t41 d41_121 (v := nI 1) rfl) <|
  Eq.trans (mx_iload_n t41 d41_122 (x := x3) rfl) <|
  (mx_virt (st := []) (k := 6) t41 [.int (nI 1), .int x3] d41_123 vt5_82 rfl rfl (Nat.le_of_ble_eq_true rfl) (Nat.le_of_ble_eq_true rfl) h0)
theorem b41_126 {d : Nat} {S : mm_S} {a0 : Nat} {x1 : Int32} {a2 : Nat} {x3 : Int32} : mm_ex d 41 126 [.ref a0, .int x1, .ref a2, .int x3] [] S =
    some (some (.int (nI 1)), S) :=
  Eq.trans (mx_iconst t41 d41_126 (v := nI 1) rfl) <|
  (mx_iret t41 d41_127 (ty := .boolean) rfl rfl (fun h => nomatch h))
theorem b41_128 {d : Nat} {S : mm_S} {a0 : Nat} {x1 : Int32} {a2 : Nat} {x3 : Int32} (h0 : mm_obj S a0 5 = true) (h1 : (mm_R S a0 3).isSome = true) (h2 : mm_obj S (mm_rg S a0 3) 6 = true) : mm_ex d 41 128 [.ref a0, .int x1, .ref a2, .int x3] [] S =
    some (some (.int (nI 1)), (mm_uM S (mm_rg S a0 3) 0 x3)) :=
  Eq.trans (mx_aload_n t41 d41_128 (x := a0) rfl) <|
  Eq.trans (mx_getR t41 d41_129 rfl fl5_17 h0 h1) <|
  Eq.trans (mx_iload_n t41 d41_132 (x := x3) rfl) <|
  Eq.trans (mx_puti2 t41 d41_133 fl5_86 rfl h2) <|
  Eq.trans (mx_iconst t41 d41_136 (v := nI 1) rfl) <|
  (mx_iret t41 d41_137 (ty := .boolean) rfl rfl (fun h => nomatch h))
theorem b41_138 {d : Nat} {S : mm_S} {a0 : Nat} {x1 : Int32} {a2 : Nat} {x3 : Int32} (h0 : mm_obj S a0 5 = true) (h1 : (mm_R S a0 3).isSome = true) (h2 : mm_obj S (mm_rg S a0 3) 6 = true) : mm_ex d 41 138 [.ref a0, .int x1, .ref a2, .int x3] [] S =
    some (some (.int (nI 1)), (mm_uM S (mm_rg S a0 3) 1 x3)) :=
  Eq.trans (mx_aload_n t41 d41_138 (x := a0) rfl) <|
  Eq.trans (mx_getR t41 d41_139 rfl fl5_17 h0 h1) <|
  Eq.trans (mx_iload_n t41 d41_142 (x := x3) rfl) <|
  Eq.trans (mx_puti2 t41 d41_143 fl5_89 rfl h2) <|
  Eq.trans (mx_iconst t41 d41_146 (v := nI 1) rfl) <|
  (mx_iret t41 d41_147 (ty := .boolean) rfl rfl (fun h => nomatch h))
theorem b41_148 {d : Nat} {S : mm_S} {a0 : Nat} {x1 : Int32} {a2 : Nat} {x3 : Int32} (h0 : mm_obj S a0 5 = true) (h1 : (mm_R S a0 3).isSome = true) (h2 : mm_obj S (mm_rg S a0 3) 6 = true) : mm_ex (d + 1) 41 148 [.ref a0, .int x1, .ref a2, .int x3] [] S =
    some (some (.int (nI 1)), (mm_uM S (mm_rg S a0 3) 2 (if (nI 9) < x3 then (nI 9) else x3))) :=
  Eq.trans (mx_aload_n t41 d41_148 (x := a0) rfl) <|
  Eq.trans (mx_getR t41 d41_149 rfl fl5_17 h0 h1) <|
  Eq.trans (mx_iload_n t41 d41_152 (x := x3) rfl) <|
  Eq.trans (mx_bipush t41 d41_153 (v := nI 9) rfl) <|
  Eq.trans (mx_math t41 d41_155 (k := 0) acn5_92 mxx5_92 (Nat.le_of_ble_eq_true rfl)) <|
  Eq.trans (mx_puti2 t41 d41_158 fl5_98 rfl h2) <|
  Eq.trans (mx_iconst t41 d41_161 (v := nI 1) rfl) <|
  (mx_iret t41 d41_162 (ty := .boolean) rfl rfl (fun h => nomatch h))
theorem b41_163 {d : Nat} {S : mm_S} {a0 : Nat} {x1 : Int32} {a2 : Nat} {x3 : Int32} (h0 : mm_obj S a0 5 = true) (h1 : (mm_R S a0 3).isSome = true) (h2 : mm_obj S (mm_rg S a0 3) 6 = true) : mm_ex d 41 163 [.ref a0, .int x1, .ref a2, .int x3] [] S =
    some (some (.int (nI 1)), (mm_uM S (mm_rg S a0 3) 3 x3)) :=
  Eq.trans (mx_aload_n t41 d41_163 (x := a0) rfl) <|
  Eq.trans (mx_getR t41 d41_164 rfl fl5_17 h0 h1) <|
  Eq.trans (mx_iload_n t41 d41_167 (x := x3) rfl) <|
  Eq.trans (mx_puti2 t41 d41_168 fl5_101 rfl h2) <|
  Eq.trans (mx_iconst t41 d41_171 (v := nI 1) rfl) <|
  (mx_iret t41 d41_172 (ty := .boolean) rfl rfl (fun h => nomatch h))
theorem e41 {d : Nat} {S : mm_S} {a0 : Nat} : mm_cl d 41 [.ref a0] S = mm_ex d 41 0 [.ref a0, .null, .null, .null] [] S := mm_cl_eq t41 (Nat.le_of_ble_eq_true rfl) rfl
/-! X5_either -/
theorem dd42_0 : (decode prog_7_method_9_code 0 = .ok (.aload_n 0, 1)) ∧ (decode prog_7_method_9_code 1 = .ok (.iload_n 1, 1)) ∧ (decode prog_7_method_9_code 2 = .ok (.invokevirtual 104, 3)) ∧ (decode prog_7_method_9_code 5 = .ok (.ifCond .ne 5, 3)) ∧ (decode prog_7_method_9_code 8 = .ok (.iconst 0, 1)) ∧ (decode prog_7_method_9_code 9 = .ok (.ireturn, 1)) ∧ (decode prog_7_method_9_code 10 = .ok (.aload_n 0, 1)) ∧ (decode prog_7_method_9_code 11 = .ok (.getfield 26, 3)) ∧ (decode prog_7_method_9_code 14 = .ok (.aload_n 0, 1)) ∧ (decode prog_7_method_9_code 15 = .ok (.getfield 13, 3)) ∧ (decode prog_7_method_9_code 18 = .ok (.if_icmp .ge 49, 3)) ∧ (decode prog_7_method_9_code 21 = .ok (.aload_n 0, 1)) ∧ (decode prog_7_method_9_code 22 = .ok (.getfield 9, 3)) ∧ (decode prog_7_method_9_code 25 = .ok (.aload_n 0, 1)) ∧ (decode prog_7_method_9_code 26 = .ok (.getfield 26, 3)) ∧ (decode prog_7_method_9_code 29 = .ok (.iaload, 1)) := by decide +kernel
theorem d42_0 : decode prog_7_method_9_code 0 = .ok (.aload_n 0, 1) := dd42_0.1
theorem d42_1 : decode prog_7_method_9_code 1 = .ok (.iload_n 1, 1) := dd42_0.2.1
theorem d42_2 : decode prog_7_method_9_code 2 = .ok (.invokevirtual 104, 3) := dd42_0.2.2.1
theorem d42_5 : decode prog_7_method_9_code 5 = .ok (.ifCond .ne 5, 3) := dd42_0.2.2.2.1
theorem d42_8 : decode prog_7_method_9_code 8 = .ok (.iconst 0, 1) := dd42_0.2.2.2.2.1
theorem d42_9 : decode prog_7_method_9_code 9 = .ok (.ireturn, 1) := dd42_0.2.2.2.2.2.1
theorem d42_10 : decode prog_7_method_9_code 10 = .ok (.aload_n 0, 1) := dd42_0.2.2.2.2.2.2.1
theorem d42_11 : decode prog_7_method_9_code 11 = .ok (.getfield 26, 3) := dd42_0.2.2.2.2.2.2.2.1
theorem d42_14 : decode prog_7_method_9_code 14 = .ok (.aload_n 0, 1) := dd42_0.2.2.2.2.2.2.2.2.1
theorem d42_15 : decode prog_7_method_9_code 15 = .ok (.getfield 13, 3) := dd42_0.2.2.2.2.2.2.2.2.2.1
theorem d42_18 : decode prog_7_method_9_code 18 = .ok (.if_icmp .ge 49, 3) := dd42_0.2.2.2.2.2.2.2.2.2.2.1
theorem d42_21 : decode prog_7_method_9_code 21 = .ok (.aload_n 0, 1) := dd42_0.2.2.2.2.2.2.2.2.2.2.2.1
theorem d42_22 : decode prog_7_method_9_code 22 = .ok (.getfield 9, 3) := dd42_0.2.2.2.2.2.2.2.2.2.2.2.2.1
theorem d42_25 : decode prog_7_method_9_code 25 = .ok (.aload_n 0, 1) := dd42_0.2.2.2.2.2.2.2.2.2.2.2.2.2.1
theorem d42_26 : decode prog_7_method_9_code 26 = .ok (.getfield 26, 3) := dd42_0.2.2.2.2.2.2.2.2.2.2.2.2.2.2.1
theorem d42_29 : decode prog_7_method_9_code 29 = .ok (.iaload, 1) := dd42_0.2.2.2.2.2.2.2.2.2.2.2.2.2.2.2
theorem dd42_30 : (decode prog_7_method_9_code 30 = .ok (.bipush 124, 2)) ∧ (decode prog_7_method_9_code 32 = .ok (.if_icmp .ne 35, 3)) ∧ (decode prog_7_method_9_code 35 = .ok (.aload_n 0, 1)) ∧ (decode prog_7_method_9_code 36 = .ok (.dup, 1)) ∧ (decode prog_7_method_9_code 37 = .ok (.getfield 26, 3)) ∧ (decode prog_7_method_9_code 40 = .ok (.iconst 1, 1)) ∧ (decode prog_7_method_9_code 41 = .ok (.iadd, 1)) ∧ (decode prog_7_method_9_code 42 = .ok (.putfield 26, 3)) ∧ (decode prog_7_method_9_code 45 = .ok (.aload_n 0, 1)) ∧ (decode prog_7_method_9_code 46 = .ok (.iload_n 1, 1)) ∧ (decode prog_7_method_9_code 47 = .ok (.invokevirtual 104, 3)) ∧ (decode prog_7_method_9_code 50 = .ok (.ifCond .ne 5, 3)) ∧ (decode prog_7_method_9_code 53 = .ok (.iconst 0, 1)) ∧ (decode prog_7_method_9_code 54 = .ok (.ireturn, 1)) ∧ (decode prog_7_method_9_code 55 = .ok (.aload_n 0, 1)) ∧ (decode prog_7_method_9_code 56 = .ok (.getfield 17, 3)) := by decide +kernel
theorem d42_30 : decode prog_7_method_9_code 30 = .ok (.bipush 124, 2) := dd42_30.1
theorem d42_32 : decode prog_7_method_9_code 32 = .ok (.if_icmp .ne 35, 3) := dd42_30.2.1
theorem d42_35 : decode prog_7_method_9_code 35 = .ok (.aload_n 0, 1) := dd42_30.2.2.1
theorem d42_36 : decode prog_7_method_9_code 36 = .ok (.dup, 1) := dd42_30.2.2.2.1
theorem d42_37 : decode prog_7_method_9_code 37 = .ok (.getfield 26, 3) := dd42_30.2.2.2.2.1
theorem d42_40 : decode prog_7_method_9_code 40 = .ok (.iconst 1, 1) := dd42_30.2.2.2.2.2.1
theorem d42_41 : decode prog_7_method_9_code 41 = .ok (.iadd, 1) := dd42_30.2.2.2.2.2.2.1
theorem d42_42 : decode prog_7_method_9_code 42 = .ok (.putfield 26, 3) := dd42_30.2.2.2.2.2.2.2.1
theorem d42_45 : decode prog_7_method_9_code 45 = .ok (.aload_n 0, 1) := dd42_30.2.2.2.2.2.2.2.2.1
theorem d42_46 : decode prog_7_method_9_code 46 = .ok (.iload_n 1, 1) := dd42_30.2.2.2.2.2.2.2.2.2.1
theorem d42_47 : decode prog_7_method_9_code 47 = .ok (.invokevirtual 104, 3) := dd42_30.2.2.2.2.2.2.2.2.2.2.1
theorem d42_50 : decode prog_7_method_9_code 50 = .ok (.ifCond .ne 5, 3) := dd42_30.2.2.2.2.2.2.2.2.2.2.2.1
theorem d42_53 : decode prog_7_method_9_code 53 = .ok (.iconst 0, 1) := dd42_30.2.2.2.2.2.2.2.2.2.2.2.2.1
theorem d42_54 : decode prog_7_method_9_code 54 = .ok (.ireturn, 1) := dd42_30.2.2.2.2.2.2.2.2.2.2.2.2.2.1
theorem d42_55 : decode prog_7_method_9_code 55 = .ok (.aload_n 0, 1) := dd42_30.2.2.2.2.2.2.2.2.2.2.2.2.2.2.1
theorem d42_56 : decode prog_7_method_9_code 56 = .ok (.getfield 17, 3) := dd42_30.2.2.2.2.2.2.2.2.2.2.2.2.2.2.2
theorem dd42_59 : (decode prog_7_method_9_code 59 = .ok (.bipush (-3), 2)) ∧ (decode prog_7_method_9_code 61 = .ok (.invokevirtual 107, 3)) ∧ (decode prog_7_method_9_code 64 = .ok (.goto (-54), 3)) ∧ (decode prog_7_method_9_code 67 = .ok (.iconst 1, 1)) ∧ (decode prog_7_method_9_code 68 = .ok (.ireturn, 1)) := by decide +kernel
theorem d42_59 : decode prog_7_method_9_code 59 = .ok (.bipush (-3), 2) := dd42_59.1
theorem d42_61 : decode prog_7_method_9_code 61 = .ok (.invokevirtual 107, 3) := dd42_59.2.1
theorem d42_64 : decode prog_7_method_9_code 64 = .ok (.goto (-54), 3) := dd42_59.2.2.1
theorem d42_67 : decode prog_7_method_9_code 67 = .ok (.iconst 1, 1) := dd42_59.2.2.2.1
theorem d42_68 : decode prog_7_method_9_code 68 = .ok (.ireturn, 1) := dd42_59.2.2.2.2
theorem b42_0 {d : Nat} {S : mm_S} {a0 : Nat} {x1 : Int32} (h0 : mm_rk S a0 = 5) : mm_ex (d + 1) 42 0 [.ref a0, .int x1] [] S =
    mm_bd (mm_cl d 43 [.ref a0, .int x1] S) (fun v S2 => mm_ex (d + 1) 42 5 [.ref a0, .int x1] (v.toList ++ []) S2) :=
  Eq.trans (mx_aload_n t42 d42_0 (x := a0) rfl) <|
  Eq.trans (mx_iload_n t42 d42_1 (x := x1) rfl) <|
  (mx_virt (st := []) (k := 5) t42 [.int x1] d42_2 vt5_104 rfl rfl (Nat.le_of_ble_eq_true rfl) (Nat.le_of_ble_eq_true rfl) h0)
theorem b42_5 {d : Nat} {S : mm_S} {a0 : Nat} {x1 : Int32} {p0 : Int32} : mm_ex d 42 5 [.ref a0, .int x1] [.int p0] S =
    if p0 = nI 0 then mm_ex d 42 8 [.ref a0, .int x1] [] S else mm_ex d 42 10 [.ref a0, .int x1] [] S :=
  (mx_ine t42 d42_5 (tgt := 10) (by decide))
theorem b42_8 {d : Nat} {S : mm_S} {a0 : Nat} {x1 : Int32} : mm_ex d 42 8 [.ref a0, .int x1] [] S =
    some (some (.int (nI 0)), S) :=
  Eq.trans (mx_iconst t42 d42_8 (v := nI 0) rfl) <|
  (mx_iret t42 d42_9 (ty := .boolean) rfl rfl (fun h => nomatch h))
theorem b42_10 {d : Nat} {S : mm_S} {a0 : Nat} {x1 : Int32} (h0 : mm_obj S a0 5 = true) : mm_ex d 42 10 [.ref a0, .int x1] [] S =
    if (mm_M S a0 0) ≤ (mm_M S a0 2) then mm_ex d 42 67 [.ref a0, .int x1] [] S else mm_ex d 42 21 [.ref a0, .int x1] [] S :=
  Eq.trans (mx_aload_n t42 d42_10 (x := a0) rfl) <|
  Eq.trans (mx_geti t42 d42_11 rfl fl5_26 h0) <|
  Eq.trans (mx_aload_n t42 d42_14 (x := a0) rfl) <|
  Eq.trans (mx_geti t42 d42_15 rfl fl5_13 h0) <|
  (mx_cge t42 d42_18 (tgt := 67) (by decide))
theorem b42_21 {d : Nat} {S : mm_S} {a0 : Nat} {x1 : Int32} (h0 : mm_obj S a0 5 = true) (h1 : (mm_R S a0 1).isSome = true) (h2 : mm_inb (mm_M S a0 2) (mm_N S (mm_rg S a0 1)) = true) (h3 : mm_arr S (mm_rg S a0 1) 13 = true) : mm_ex d 42 21 [.ref a0, .int x1] [] S =
    if (mm_M S (mm_rg S a0 1) (mm_M S a0 2).toNatClampNeg) = (nI 124) then mm_ex d 42 35 [.ref a0, .int x1] [] S else mm_ex d 42 67 [.ref a0, .int x1] [] S :=
  Eq.trans (mx_aload_n t42 d42_21 (x := a0) rfl) <|
  Eq.trans (mx_getR t42 d42_22 rfl fl5_9 h0 h1) <|
  Eq.trans (mx_aload_n t42 d42_25 (x := a0) rfl) <|
  Eq.trans (mx_geti t42 d42_26 rfl fl5_26 h0) <|
  Eq.trans (mx_iald t42 d42_29 h3 h2) <|
  Eq.trans (mx_bipush t42 d42_30 (v := nI 124) rfl) <|
  (mx_cne t42 d42_32 (tgt := 67) (by decide))
theorem b42_35 {d : Nat} {S : mm_S} {a0 : Nat} {x1 : Int32} (h0 : mm_obj S a0 5 = true) (h1 : mm_rk S a0 = 5) : mm_ex (d + 1) 42 35 [.ref a0, .int x1] [] S =
    mm_bd (mm_cl d 43 [.ref a0, .int x1] (mm_uM S a0 2 ((mm_M S a0 2) + (nI 1)))) (fun v S2 => mm_ex (d + 1) 42 50 [.ref a0, .int x1] (v.toList ++ []) S2) :=
  Eq.trans (mx_aload_n t42 d42_35 (x := a0) rfl) <|
  Eq.trans (mx_dupr t42 d42_36) <|
  Eq.trans (mx_geti t42 d42_37 rfl fl5_26 h0) <|
  Eq.trans (mx_iconst t42 d42_40 (v := nI 1) rfl) <|
  Eq.trans (mx_iadd t42 d42_41) <|
  Eq.trans (mx_puti2 t42 d42_42 fl5_26 rfl h0) <|
  Eq.trans (mx_aload_n t42 d42_45 (x := a0) rfl) <|
  Eq.trans (mx_iload_n t42 d42_46 (x := x1) rfl) <|
  (mx_virt (st := []) (k := 5) t42 [.int x1] d42_47 vt5_104 rfl rfl (Nat.le_of_ble_eq_true rfl) (Nat.le_of_ble_eq_true rfl) h1)
theorem b42_50 {d : Nat} {S : mm_S} {a0 : Nat} {x1 : Int32} {p0 : Int32} : mm_ex d 42 50 [.ref a0, .int x1] [.int p0] S =
    if p0 = nI 0 then mm_ex d 42 53 [.ref a0, .int x1] [] S else mm_ex d 42 55 [.ref a0, .int x1] [] S :=
  (mx_ine t42 d42_50 (tgt := 55) (by decide))
theorem b42_53 {d : Nat} {S : mm_S} {a0 : Nat} {x1 : Int32} : mm_ex d 42 53 [.ref a0, .int x1] [] S =
    some (some (.int (nI 0)), S) :=
  Eq.trans (mx_iconst t42 d42_53 (v := nI 0) rfl) <|
  (mx_iret t42 d42_54 (ty := .boolean) rfl rfl (fun h => nomatch h))
theorem b42_55 {d : Nat} {S : mm_S} {a0 : Nat} {x1 : Int32} (h0 : mm_obj S a0 5 = true) (h1 : (mm_R S a0 3).isSome = true) (h2 : mm_rk S (mm_rg S a0 3) = 6) : mm_ex (d + 1) 42 55 [.ref a0, .int x1] [] S =
    mm_bd (mm_cl d 49 [.ref (mm_rg S a0 3), .int (-3)] S) (fun v S2 => mm_ex (d + 1) 42 64 [.ref a0, .int x1] (v.toList ++ []) S2) :=
  Eq.trans (mx_aload_n t42 d42_55 (x := a0) rfl) <|
  Eq.trans (mx_getR t42 d42_56 rfl fl5_17 h0 h1) <|
  Eq.trans (mx_bipush t42 d42_59 (v := -3) rfl) <|
  (mx_virt (st := []) (k := 6) t42 [.int (-3)] d42_61 vt5_107 rfl rfl (Nat.le_of_ble_eq_true rfl) (Nat.le_of_ble_eq_true rfl) h2)
theorem b42_64 {d : Nat} {S : mm_S} {a0 : Nat} {x1 : Int32} : mm_ex d 42 64 [.ref a0, .int x1] [] S =
    mm_ex d 42 10 [.ref a0, .int x1] [] S :=
  (mx_goto t42 d42_64 (tgt := 10) (by decide))
theorem b42_67 {d : Nat} {S : mm_S} {a0 : Nat} {x1 : Int32} : mm_ex d 42 67 [.ref a0, .int x1] [] S =
    some (some (.int (nI 1)), S) :=
  Eq.trans (mx_iconst t42 d42_67 (v := nI 1) rfl) <|
  (mx_iret t42 d42_68 (ty := .boolean) rfl rfl (fun h => nomatch h))
theorem e42 {d : Nat} {S : mm_S} {a0 : Nat} {x1 : Int32} : mm_cl d 42 [.ref a0, .int x1] S = mm_ex d 42 0 [.ref a0, .int x1] [] S := mm_cl_eq t42 (Nat.le_of_ble_eq_true rfl) rfl
/-! X5_both -/
theorem dd43_0 : (decode prog_7_method_10_code 0 = .ok (.aload_n 0, 1)) ∧ (decode prog_7_method_10_code 1 = .ok (.iload_n 1, 1)) ∧ (decode prog_7_method_10_code 2 = .ok (.invokevirtual 111, 3)) ∧ (decode prog_7_method_10_code 5 = .ok (.ifCond .ne 5, 3)) ∧ (decode prog_7_method_10_code 8 = .ok (.iconst 0, 1)) ∧ (decode prog_7_method_10_code 9 = .ok (.ireturn, 1)) ∧ (decode prog_7_method_10_code 10 = .ok (.aload_n 0, 1)) ∧ (decode prog_7_method_10_code 11 = .ok (.getfield 26, 3)) ∧ (decode prog_7_method_10_code 14 = .ok (.aload_n 0, 1)) ∧ (decode prog_7_method_10_code 15 = .ok (.getfield 13, 3)) ∧ (decode prog_7_method_10_code 18 = .ok (.if_icmp .ge 49, 3)) ∧ (decode prog_7_method_10_code 21 = .ok (.aload_n 0, 1)) ∧ (decode prog_7_method_10_code 22 = .ok (.getfield 9, 3)) ∧ (decode prog_7_method_10_code 25 = .ok (.aload_n 0, 1)) ∧ (decode prog_7_method_10_code 26 = .ok (.getfield 26, 3)) ∧ (decode prog_7_method_10_code 29 = .ok (.iaload, 1)) := by decide +kernel
theorem d43_0 : decode prog_7_method_10_code 0 = .ok (.aload_n 0, 1) := dd43_0.1
theorem d43_1 : decode prog_7_method_10_code 1 = .ok (.iload_n 1, 1) := dd43_0.2.1
theorem d43_2 : decode prog_7_method_10_code 2 = .ok (.invokevirtual 111, 3) := dd43_0.2.2.1
theorem d43_5 : decode prog_7_method_10_code 5 = .ok (.ifCond .ne 5, 3) := dd43_0.2.2.2.1
theorem d43_8 : decode prog_7_method_10_code 8 = .ok (.iconst 0, 1) := dd43_0.2.2.2.2.1
theorem d43_9 : decode prog_7_method_10_code 9 = .ok (.ireturn, 1) := dd43_0.2.2.2.2.2.1
theorem d43_10 : decode prog_7_method_10_code 10 = .ok (.aload_n 0, 1) := dd43_0.2.2.2.2.2.2.1
theorem d43_11 : decode prog_7_method_10_code 11 = .ok (.getfield 26, 3) := dd43_0.2.2.2.2.2.2.2.1
theorem d43_14 : decode prog_7_method_10_code 14 = .ok (.aload_n 0, 1) := dd43_0.2.2.2.2.2.2.2.2.1
theorem d43_15 : decode prog_7_method_10_code 15 = .ok (.getfield 13, 3) := dd43_0.2.2.2.2.2.2.2.2.2.1
theorem d43_18 : decode prog_7_method_10_code 18 = .ok (.if_icmp .ge 49, 3) := dd43_0.2.2.2.2.2.2.2.2.2.2.1
theorem d43_21 : decode prog_7_method_10_code 21 = .ok (.aload_n 0, 1) := dd43_0.2.2.2.2.2.2.2.2.2.2.2.1
theorem d43_22 : decode prog_7_method_10_code 22 = .ok (.getfield 9, 3) := dd43_0.2.2.2.2.2.2.2.2.2.2.2.2.1
theorem d43_25 : decode prog_7_method_10_code 25 = .ok (.aload_n 0, 1) := dd43_0.2.2.2.2.2.2.2.2.2.2.2.2.2.1
theorem d43_26 : decode prog_7_method_10_code 26 = .ok (.getfield 26, 3) := dd43_0.2.2.2.2.2.2.2.2.2.2.2.2.2.2.1
theorem d43_29 : decode prog_7_method_10_code 29 = .ok (.iaload, 1) := dd43_0.2.2.2.2.2.2.2.2.2.2.2.2.2.2.2
theorem dd43_30 : (decode prog_7_method_10_code 30 = .ok (.bipush 38, 2)) ∧ (decode prog_7_method_10_code 32 = .ok (.if_icmp .ne 35, 3)) ∧ (decode prog_7_method_10_code 35 = .ok (.aload_n 0, 1)) ∧ (decode prog_7_method_10_code 36 = .ok (.dup, 1)) ∧ (decode prog_7_method_10_code 37 = .ok (.getfield 26, 3)) ∧ (decode prog_7_method_10_code 40 = .ok (.iconst 1, 1)) ∧ (decode prog_7_method_10_code 41 = .ok (.iadd, 1)) ∧ (decode prog_7_method_10_code 42 = .ok (.putfield 26, 3)) ∧ (decode prog_7_method_10_code 45 = .ok (.aload_n 0, 1)) ∧ (decode prog_7_method_10_code 46 = .ok (.iload_n 1, 1)) ∧ (decode prog_7_method_10_code 47 = .ok (.invokevirtual 111, 3)) ∧ (decode prog_7_method_10_code 50 = .ok (.ifCond .ne 5, 3)) ∧ (decode prog_7_method_10_code 53 = .ok (.iconst 0, 1)) ∧ (decode prog_7_method_10_code 54 = .ok (.ireturn, 1)) ∧ (decode prog_7_method_10_code 55 = .ok (.aload_n 0, 1)) ∧ (decode prog_7_method_10_code 56 = .ok (.getfield 17, 3)) := by decide +kernel
theorem d43_30 : decode prog_7_method_10_code 30 = .ok (.bipush 38, 2) := dd43_30.1
theorem d43_32 : decode prog_7_method_10_code 32 = .ok (.if_icmp .ne 35, 3) := dd43_30.2.1
theorem d43_35 : decode prog_7_method_10_code 35 = .ok (.aload_n 0, 1) := dd43_30.2.2.1
theorem d43_36 : decode prog_7_method_10_code 36 = .ok (.dup, 1) := dd43_30.2.2.2.1
theorem d43_37 : decode prog_7_method_10_code 37 = .ok (.getfield 26, 3) := dd43_30.2.2.2.2.1
theorem d43_40 : decode prog_7_method_10_code 40 = .ok (.iconst 1, 1) := dd43_30.2.2.2.2.2.1
theorem d43_41 : decode prog_7_method_10_code 41 = .ok (.iadd, 1) := dd43_30.2.2.2.2.2.2.1
theorem d43_42 : decode prog_7_method_10_code 42 = .ok (.putfield 26, 3) := dd43_30.2.2.2.2.2.2.2.1
theorem d43_45 : decode prog_7_method_10_code 45 = .ok (.aload_n 0, 1) := dd43_30.2.2.2.2.2.2.2.2.1
theorem d43_46 : decode prog_7_method_10_code 46 = .ok (.iload_n 1, 1) := dd43_30.2.2.2.2.2.2.2.2.2.1
theorem d43_47 : decode prog_7_method_10_code 47 = .ok (.invokevirtual 111, 3) := dd43_30.2.2.2.2.2.2.2.2.2.2.1
theorem d43_50 : decode prog_7_method_10_code 50 = .ok (.ifCond .ne 5, 3) := dd43_30.2.2.2.2.2.2.2.2.2.2.2.1
theorem d43_53 : decode prog_7_method_10_code 53 = .ok (.iconst 0, 1) := dd43_30.2.2.2.2.2.2.2.2.2.2.2.2.1
theorem d43_54 : decode prog_7_method_10_code 54 = .ok (.ireturn, 1) := dd43_30.2.2.2.2.2.2.2.2.2.2.2.2.2.1
theorem d43_55 : decode prog_7_method_10_code 55 = .ok (.aload_n 0, 1) := dd43_30.2.2.2.2.2.2.2.2.2.2.2.2.2.2.1
theorem d43_56 : decode prog_7_method_10_code 56 = .ok (.getfield 17, 3) := dd43_30.2.2.2.2.2.2.2.2.2.2.2.2.2.2.2
theorem dd43_59 : (decode prog_7_method_10_code 59 = .ok (.bipush (-2), 2)) ∧ (decode prog_7_method_10_code 61 = .ok (.invokevirtual 107, 3)) ∧ (decode prog_7_method_10_code 64 = .ok (.goto (-54), 3)) ∧ (decode prog_7_method_10_code 67 = .ok (.iconst 1, 1)) ∧ (decode prog_7_method_10_code 68 = .ok (.ireturn, 1)) := by decide +kernel
theorem d43_59 : decode prog_7_method_10_code 59 = .ok (.bipush (-2), 2) := dd43_59.1
theorem d43_61 : decode prog_7_method_10_code 61 = .ok (.invokevirtual 107, 3) := dd43_59.2.1
theorem d43_64 : decode prog_7_method_10_code 64 = .ok (.goto (-54), 3) := dd43_59.2.2.1
theorem d43_67 : decode prog_7_method_10_code 67 = .ok (.iconst 1, 1) := dd43_59.2.2.2.1
theorem d43_68 : decode prog_7_method_10_code 68 = .ok (.ireturn, 1) := dd43_59.2.2.2.2
theorem b43_0 {d : Nat} {S : mm_S} {a0 : Nat} {x1 : Int32} (h0 : mm_rk S a0 = 5) : mm_ex (d + 1) 43 0 [.ref a0, .int x1] [] S =
    mm_bd (mm_cl d 44 [.ref a0, .int x1] S) (fun v S2 => mm_ex (d + 1) 43 5 [.ref a0, .int x1] (v.toList ++ []) S2) :=
  Eq.trans (mx_aload_n t43 d43_0 (x := a0) rfl) <|
  Eq.trans (mx_iload_n t43 d43_1 (x := x1) rfl) <|
  (mx_virt (st := []) (k := 5) t43 [.int x1] d43_2 vt5_111 rfl rfl (Nat.le_of_ble_eq_true rfl) (Nat.le_of_ble_eq_true rfl) h0)
theorem b43_5 {d : Nat} {S : mm_S} {a0 : Nat} {x1 : Int32} {p0 : Int32} : mm_ex d 43 5 [.ref a0, .int x1] [.int p0] S =
    if p0 = nI 0 then mm_ex d 43 8 [.ref a0, .int x1] [] S else mm_ex d 43 10 [.ref a0, .int x1] [] S :=
  (mx_ine t43 d43_5 (tgt := 10) (by decide))
theorem b43_8 {d : Nat} {S : mm_S} {a0 : Nat} {x1 : Int32} : mm_ex d 43 8 [.ref a0, .int x1] [] S =
    some (some (.int (nI 0)), S) :=
  Eq.trans (mx_iconst t43 d43_8 (v := nI 0) rfl) <|
  (mx_iret t43 d43_9 (ty := .boolean) rfl rfl (fun h => nomatch h))
theorem b43_10 {d : Nat} {S : mm_S} {a0 : Nat} {x1 : Int32} (h0 : mm_obj S a0 5 = true) : mm_ex d 43 10 [.ref a0, .int x1] [] S =
    if (mm_M S a0 0) ≤ (mm_M S a0 2) then mm_ex d 43 67 [.ref a0, .int x1] [] S else mm_ex d 43 21 [.ref a0, .int x1] [] S :=
  Eq.trans (mx_aload_n t43 d43_10 (x := a0) rfl) <|
  Eq.trans (mx_geti t43 d43_11 rfl fl5_26 h0) <|
  Eq.trans (mx_aload_n t43 d43_14 (x := a0) rfl) <|
  Eq.trans (mx_geti t43 d43_15 rfl fl5_13 h0) <|
  (mx_cge t43 d43_18 (tgt := 67) (by decide))
theorem b43_21 {d : Nat} {S : mm_S} {a0 : Nat} {x1 : Int32} (h0 : mm_obj S a0 5 = true) (h1 : (mm_R S a0 1).isSome = true) (h2 : mm_inb (mm_M S a0 2) (mm_N S (mm_rg S a0 1)) = true) (h3 : mm_arr S (mm_rg S a0 1) 13 = true) : mm_ex d 43 21 [.ref a0, .int x1] [] S =
    if (mm_M S (mm_rg S a0 1) (mm_M S a0 2).toNatClampNeg) = (nI 38) then mm_ex d 43 35 [.ref a0, .int x1] [] S else mm_ex d 43 67 [.ref a0, .int x1] [] S :=
  Eq.trans (mx_aload_n t43 d43_21 (x := a0) rfl) <|
  Eq.trans (mx_getR t43 d43_22 rfl fl5_9 h0 h1) <|
  Eq.trans (mx_aload_n t43 d43_25 (x := a0) rfl) <|
  Eq.trans (mx_geti t43 d43_26 rfl fl5_26 h0) <|
  Eq.trans (mx_iald t43 d43_29 h3 h2) <|
  Eq.trans (mx_bipush t43 d43_30 (v := nI 38) rfl) <|
  (mx_cne t43 d43_32 (tgt := 67) (by decide))
theorem b43_35 {d : Nat} {S : mm_S} {a0 : Nat} {x1 : Int32} (h0 : mm_obj S a0 5 = true) (h1 : mm_rk S a0 = 5) : mm_ex (d + 1) 43 35 [.ref a0, .int x1] [] S =
    mm_bd (mm_cl d 44 [.ref a0, .int x1] (mm_uM S a0 2 ((mm_M S a0 2) + (nI 1)))) (fun v S2 => mm_ex (d + 1) 43 50 [.ref a0, .int x1] (v.toList ++ []) S2) :=
  Eq.trans (mx_aload_n t43 d43_35 (x := a0) rfl) <|
  Eq.trans (mx_dupr t43 d43_36) <|
  Eq.trans (mx_geti t43 d43_37 rfl fl5_26 h0) <|
  Eq.trans (mx_iconst t43 d43_40 (v := nI 1) rfl) <|
  Eq.trans (mx_iadd t43 d43_41) <|
  Eq.trans (mx_puti2 t43 d43_42 fl5_26 rfl h0) <|
  Eq.trans (mx_aload_n t43 d43_45 (x := a0) rfl) <|
  Eq.trans (mx_iload_n t43 d43_46 (x := x1) rfl) <|
  (mx_virt (st := []) (k := 5) t43 [.int x1] d43_47 vt5_111 rfl rfl (Nat.le_of_ble_eq_true rfl) (Nat.le_of_ble_eq_true rfl) h1)
theorem b43_50 {d : Nat} {S : mm_S} {a0 : Nat} {x1 : Int32} {p0 : Int32} : mm_ex d 43 50 [.ref a0, .int x1] [.int p0] S =
    if p0 = nI 0 then mm_ex d 43 53 [.ref a0, .int x1] [] S else mm_ex d 43 55 [.ref a0, .int x1] [] S :=
  (mx_ine t43 d43_50 (tgt := 55) (by decide))
theorem b43_53 {d : Nat} {S : mm_S} {a0 : Nat} {x1 : Int32} : mm_ex d 43 53 [.ref a0, .int x1] [] S =
    some (some (.int (nI 0)), S) :=
  Eq.trans (mx_iconst t43 d43_53 (v := nI 0) rfl) <|
  (mx_iret t43 d43_54 (ty := .boolean) rfl rfl (fun h => nomatch h))
theorem b43_55 {d : Nat} {S : mm_S} {a0 : Nat} {x1 : Int32} (h0 : mm_obj S a0 5 = true) (h1 : (mm_R S a0 3).isSome = true) (h2 : mm_rk S (mm_rg S a0 3) = 6) : mm_ex (d + 1) 43 55 [.ref a0, .int x1] [] S =
    mm_bd (mm_cl d 49 [.ref (mm_rg S a0 3), .int (-2)] S) (fun v S2 => mm_ex (d + 1) 43 64 [.ref a0, .int x1] (v.toList ++ []) S2) :=
  Eq.trans (mx_aload_n t43 d43_55 (x := a0) rfl) <|
  Eq.trans (mx_getR t43 d43_56 rfl fl5_17 h0 h1) <|
  Eq.trans (mx_bipush t43 d43_59 (v := -2) rfl) <|
  (mx_virt (st := []) (k := 6) t43 [.int (-2)] d43_61 vt5_107 rfl rfl (Nat.le_of_ble_eq_true rfl) (Nat.le_of_ble_eq_true rfl) h2)
theorem b43_64 {d : Nat} {S : mm_S} {a0 : Nat} {x1 : Int32} : mm_ex d 43 64 [.ref a0, .int x1] [] S =
    mm_ex d 43 10 [.ref a0, .int x1] [] S :=
  (mx_goto t43 d43_64 (tgt := 10) (by decide))
theorem b43_67 {d : Nat} {S : mm_S} {a0 : Nat} {x1 : Int32} : mm_ex d 43 67 [.ref a0, .int x1] [] S =
    some (some (.int (nI 1)), S) :=
  Eq.trans (mx_iconst t43 d43_67 (v := nI 1) rfl) <|
  (mx_iret t43 d43_68 (ty := .boolean) rfl rfl (fun h => nomatch h))
theorem e43 {d : Nat} {S : mm_S} {a0 : Nat} {x1 : Int32} : mm_cl d 43 [.ref a0, .int x1] S = mm_ex d 43 0 [.ref a0, .int x1] [] S := mm_cl_eq t43 (Nat.le_of_ble_eq_true rfl) rfl
/-! X5_factor -/
theorem dd44_0 : (decode prog_7_method_11_code 0 = .ok (.aload_n 0, 1)) ∧ (decode prog_7_method_11_code 1 = .ok (.invokevirtual 45, 3)) ∧ (decode prog_7_method_11_code 4 = .ok (.istore_n 2, 1)) ∧ (decode prog_7_method_11_code 5 = .ok (.iload_n 2, 1)) ∧ (decode prog_7_method_11_code 6 = .ok (.bipush 33, 2)) ∧ (decode prog_7_method_11_code 8 = .ok (.if_icmp .eq 14, 3)) ∧ (decode prog_7_method_11_code 11 = .ok (.iload_n 2, 1)) ∧ (decode prog_7_method_11_code 12 = .ok (.bipush 40, 2)) ∧ (decode prog_7_method_11_code 14 = .ok (.if_icmp .eq 8, 3)) ∧ (decode prog_7_method_11_code 17 = .ok (.aload_n 0, 1)) ∧ (decode prog_7_method_11_code 18 = .ok (.invokevirtual 114, 3)) ∧ (decode prog_7_method_11_code 21 = .ok (.ireturn, 1)) ∧ (decode prog_7_method_11_code 22 = .ok (.iload_n 1, 1)) ∧ (decode prog_7_method_11_code 23 = .ok (.iconst 4, 1)) ∧ (decode prog_7_method_11_code 24 = .ok (.if_icmp .lt 5, 3)) ∧ (decode prog_7_method_11_code 27 = .ok (.iconst 0, 1)) := by decide +kernel
theorem d44_0 : decode prog_7_method_11_code 0 = .ok (.aload_n 0, 1) := dd44_0.1
theorem d44_1 : decode prog_7_method_11_code 1 = .ok (.invokevirtual 45, 3) := dd44_0.2.1
theorem d44_4 : decode prog_7_method_11_code 4 = .ok (.istore_n 2, 1) := dd44_0.2.2.1
theorem d44_5 : decode prog_7_method_11_code 5 = .ok (.iload_n 2, 1) := dd44_0.2.2.2.1
theorem d44_6 : decode prog_7_method_11_code 6 = .ok (.bipush 33, 2) := dd44_0.2.2.2.2.1
theorem d44_8 : decode prog_7_method_11_code 8 = .ok (.if_icmp .eq 14, 3) := dd44_0.2.2.2.2.2.1
theorem d44_11 : decode prog_7_method_11_code 11 = .ok (.iload_n 2, 1) := dd44_0.2.2.2.2.2.2.1
theorem d44_12 : decode prog_7_method_11_code 12 = .ok (.bipush 40, 2) := dd44_0.2.2.2.2.2.2.2.1
theorem d44_14 : decode prog_7_method_11_code 14 = .ok (.if_icmp .eq 8, 3) := dd44_0.2.2.2.2.2.2.2.2.1
theorem d44_17 : decode prog_7_method_11_code 17 = .ok (.aload_n 0, 1) := dd44_0.2.2.2.2.2.2.2.2.2.1
theorem d44_18 : decode prog_7_method_11_code 18 = .ok (.invokevirtual 114, 3) := dd44_0.2.2.2.2.2.2.2.2.2.2.1
theorem d44_21 : decode prog_7_method_11_code 21 = .ok (.ireturn, 1) := dd44_0.2.2.2.2.2.2.2.2.2.2.2.1
theorem d44_22 : decode prog_7_method_11_code 22 = .ok (.iload_n 1, 1) := dd44_0.2.2.2.2.2.2.2.2.2.2.2.2.1
theorem d44_23 : decode prog_7_method_11_code 23 = .ok (.iconst 4, 1) := dd44_0.2.2.2.2.2.2.2.2.2.2.2.2.2.1
theorem d44_24 : decode prog_7_method_11_code 24 = .ok (.if_icmp .lt 5, 3) := dd44_0.2.2.2.2.2.2.2.2.2.2.2.2.2.2.1
theorem d44_27 : decode prog_7_method_11_code 27 = .ok (.iconst 0, 1) := dd44_0.2.2.2.2.2.2.2.2.2.2.2.2.2.2.2
theorem dd44_28 : (decode prog_7_method_11_code 28 = .ok (.ireturn, 1)) ∧ (decode prog_7_method_11_code 29 = .ok (.aload_n 0, 1)) ∧ (decode prog_7_method_11_code 30 = .ok (.dup, 1)) ∧ (decode prog_7_method_11_code 31 = .ok (.getfield 26, 3)) ∧ (decode prog_7_method_11_code 34 = .ok (.iconst 1, 1)) ∧ (decode prog_7_method_11_code 35 = .ok (.iadd, 1)) ∧ (decode prog_7_method_11_code 36 = .ok (.putfield 26, 3)) ∧ (decode prog_7_method_11_code 39 = .ok (.iload_n 2, 1)) ∧ (decode prog_7_method_11_code 40 = .ok (.bipush 40, 2)) ∧ (decode prog_7_method_11_code 42 = .ok (.if_icmp .ne 28, 3)) ∧ (decode prog_7_method_11_code 45 = .ok (.aload_n 0, 1)) ∧ (decode prog_7_method_11_code 46 = .ok (.iload_n 1, 1)) ∧ (decode prog_7_method_11_code 47 = .ok (.iconst 1, 1)) ∧ (decode prog_7_method_11_code 48 = .ok (.iadd, 1)) ∧ (decode prog_7_method_11_code 49 = .ok (.invokevirtual 78, 3)) ∧ (decode prog_7_method_11_code 52 = .ok (.ifCond .eq 16, 3)) := by decide +kernel
theorem d44_28 : decode prog_7_method_11_code 28 = .ok (.ireturn, 1) := dd44_28.1
theorem d44_29 : decode prog_7_method_11_code 29 = .ok (.aload_n 0, 1) := dd44_28.2.1
theorem d44_30 : decode prog_7_method_11_code 30 = .ok (.dup, 1) := dd44_28.2.2.1
theorem d44_31 : decode prog_7_method_11_code 31 = .ok (.getfield 26, 3) := dd44_28.2.2.2.1
theorem d44_34 : decode prog_7_method_11_code 34 = .ok (.iconst 1, 1) := dd44_28.2.2.2.2.1
theorem d44_35 : decode prog_7_method_11_code 35 = .ok (.iadd, 1) := dd44_28.2.2.2.2.2.1
theorem d44_36 : decode prog_7_method_11_code 36 = .ok (.putfield 26, 3) := dd44_28.2.2.2.2.2.2.1
theorem d44_39 : decode prog_7_method_11_code 39 = .ok (.iload_n 2, 1) := dd44_28.2.2.2.2.2.2.2.1
theorem d44_40 : decode prog_7_method_11_code 40 = .ok (.bipush 40, 2) := dd44_28.2.2.2.2.2.2.2.2.1
theorem d44_42 : decode prog_7_method_11_code 42 = .ok (.if_icmp .ne 28, 3) := dd44_28.2.2.2.2.2.2.2.2.2.1
theorem d44_45 : decode prog_7_method_11_code 45 = .ok (.aload_n 0, 1) := dd44_28.2.2.2.2.2.2.2.2.2.2.1
theorem d44_46 : decode prog_7_method_11_code 46 = .ok (.iload_n 1, 1) := dd44_28.2.2.2.2.2.2.2.2.2.2.2.1
theorem d44_47 : decode prog_7_method_11_code 47 = .ok (.iconst 1, 1) := dd44_28.2.2.2.2.2.2.2.2.2.2.2.2.1
theorem d44_48 : decode prog_7_method_11_code 48 = .ok (.iadd, 1) := dd44_28.2.2.2.2.2.2.2.2.2.2.2.2.2.1
theorem d44_49 : decode prog_7_method_11_code 49 = .ok (.invokevirtual 78, 3) := dd44_28.2.2.2.2.2.2.2.2.2.2.2.2.2.2.1
theorem d44_52 : decode prog_7_method_11_code 52 = .ok (.ifCond .eq 16, 3) := dd44_28.2.2.2.2.2.2.2.2.2.2.2.2.2.2.2
theorem dd44_55 : (decode prog_7_method_11_code 55 = .ok (.aload_n 0, 1)) ∧ (decode prog_7_method_11_code 56 = .ok (.ldc 117, 2)) ∧ (decode prog_7_method_11_code 58 = .ok (.invokevirtual 35, 3)) ∧ (decode prog_7_method_11_code 61 = .ok (.ifCond .eq 7, 3)) ∧ (decode prog_7_method_11_code 64 = .ok (.iconst 1, 1)) ∧ (decode prog_7_method_11_code 65 = .ok (.goto 4, 3)) ∧ (decode prog_7_method_11_code 68 = .ok (.iconst 0, 1)) ∧ (decode prog_7_method_11_code 69 = .ok (.ireturn, 1)) ∧ (decode prog_7_method_11_code 70 = .ok (.aload_n 0, 1)) ∧ (decode prog_7_method_11_code 71 = .ok (.iload_n 1, 1)) ∧ (decode prog_7_method_11_code 72 = .ok (.iconst 1, 1)) ∧ (decode prog_7_method_11_code 73 = .ok (.iadd, 1)) ∧ (decode prog_7_method_11_code 74 = .ok (.invokevirtual 111, 3)) ∧ (decode prog_7_method_11_code 77 = .ok (.ifCond .ne 5, 3)) ∧ (decode prog_7_method_11_code 80 = .ok (.iconst 0, 1)) ∧ (decode prog_7_method_11_code 81 = .ok (.ireturn, 1)) := by decide +kernel
theorem d44_55 : decode prog_7_method_11_code 55 = .ok (.aload_n 0, 1) := dd44_55.1
theorem d44_56 : decode prog_7_method_11_code 56 = .ok (.ldc 117, 2) := dd44_55.2.1
theorem d44_58 : decode prog_7_method_11_code 58 = .ok (.invokevirtual 35, 3) := dd44_55.2.2.1
theorem d44_61 : decode prog_7_method_11_code 61 = .ok (.ifCond .eq 7, 3) := dd44_55.2.2.2.1
theorem d44_64 : decode prog_7_method_11_code 64 = .ok (.iconst 1, 1) := dd44_55.2.2.2.2.1
theorem d44_65 : decode prog_7_method_11_code 65 = .ok (.goto 4, 3) := dd44_55.2.2.2.2.2.1
theorem d44_68 : decode prog_7_method_11_code 68 = .ok (.iconst 0, 1) := dd44_55.2.2.2.2.2.2.1
theorem d44_69 : decode prog_7_method_11_code 69 = .ok (.ireturn, 1) := dd44_55.2.2.2.2.2.2.2.1
theorem d44_70 : decode prog_7_method_11_code 70 = .ok (.aload_n 0, 1) := dd44_55.2.2.2.2.2.2.2.2.1
theorem d44_71 : decode prog_7_method_11_code 71 = .ok (.iload_n 1, 1) := dd44_55.2.2.2.2.2.2.2.2.2.1
theorem d44_72 : decode prog_7_method_11_code 72 = .ok (.iconst 1, 1) := dd44_55.2.2.2.2.2.2.2.2.2.2.1
theorem d44_73 : decode prog_7_method_11_code 73 = .ok (.iadd, 1) := dd44_55.2.2.2.2.2.2.2.2.2.2.2.1
theorem d44_74 : decode prog_7_method_11_code 74 = .ok (.invokevirtual 111, 3) := dd44_55.2.2.2.2.2.2.2.2.2.2.2.2.1
theorem d44_77 : decode prog_7_method_11_code 77 = .ok (.ifCond .ne 5, 3) := dd44_55.2.2.2.2.2.2.2.2.2.2.2.2.2.1
theorem d44_80 : decode prog_7_method_11_code 80 = .ok (.iconst 0, 1) := dd44_55.2.2.2.2.2.2.2.2.2.2.2.2.2.2.1
theorem d44_81 : decode prog_7_method_11_code 81 = .ok (.ireturn, 1) := dd44_55.2.2.2.2.2.2.2.2.2.2.2.2.2.2.2
theorem dd44_82 : (decode prog_7_method_11_code 82 = .ok (.aload_n 0, 1)) ∧ (decode prog_7_method_11_code 83 = .ok (.getfield 17, 3)) ∧ (decode prog_7_method_11_code 86 = .ok (.iconst (-1), 1)) ∧ (decode prog_7_method_11_code 87 = .ok (.invokevirtual 107, 3)) ∧ (decode prog_7_method_11_code 90 = .ok (.iconst 1, 1)) ∧ (decode prog_7_method_11_code 91 = .ok (.ireturn, 1)) := by decide +kernel
theorem d44_82 : decode prog_7_method_11_code 82 = .ok (.aload_n 0, 1) := dd44_82.1
theorem d44_83 : decode prog_7_method_11_code 83 = .ok (.getfield 17, 3) := dd44_82.2.1
theorem d44_86 : decode prog_7_method_11_code 86 = .ok (.iconst (-1), 1) := dd44_82.2.2.1
theorem d44_87 : decode prog_7_method_11_code 87 = .ok (.invokevirtual 107, 3) := dd44_82.2.2.2.1
theorem d44_90 : decode prog_7_method_11_code 90 = .ok (.iconst 1, 1) := dd44_82.2.2.2.2.1
theorem d44_91 : decode prog_7_method_11_code 91 = .ok (.ireturn, 1) := dd44_82.2.2.2.2.2
theorem b44_0 {d : Nat} {S : mm_S} {a0 : Nat} {x1 : Int32} (h0 : mm_rk S a0 = 5) : mm_ex (d + 1) 44 0 [.ref a0, .int x1, .null] [] S =
    mm_bd (mm_cl d 38 [.ref a0] S) (fun v S2 => mm_ex (d + 1) 44 4 [.ref a0, .int x1, .null] (v.toList ++ []) S2) :=
  Eq.trans (mx_aload_n t44 d44_0 (x := a0) rfl) <|
  (mx_virt (st := []) (k := 5) t44 [] d44_1 vt5_45 rfl rfl (Nat.le_of_ble_eq_true rfl) (Nat.le_of_ble_eq_true rfl) h0)
theorem b44_4 {d : Nat} {S : mm_S} {a0 : Nat} {x1 : Int32} {p0 : Int32} : mm_ex d 44 4 [.ref a0, .int x1, .null] [.int p0] S =
    if p0 = (nI 33) then mm_ex d 44 22 [.ref a0, .int x1, .int p0] [] S else mm_ex d 44 11 [.ref a0, .int x1, .int p0] [] S :=
  Eq.trans (mx_istore_n t44 d44_4 (ls' := [.ref a0, .int x1, .int p0]) rfl rfl) <|
  Eq.trans (mx_iload_n t44 d44_5 (x := p0) rfl) <|
  Eq.trans (mx_bipush t44 d44_6 (v := nI 33) rfl) <|
  (mx_ceq t44 d44_8 (tgt := 22) (by decide))
theorem b44_11 {d : Nat} {S : mm_S} {a0 : Nat} {x1 : Int32} {x2 : Int32} : mm_ex d 44 11 [.ref a0, .int x1, .int x2] [] S =
    if x2 = (nI 40) then mm_ex d 44 22 [.ref a0, .int x1, .int x2] [] S else mm_ex d 44 17 [.ref a0, .int x1, .int x2] [] S :=
  Eq.trans (mx_iload_n t44 d44_11 (x := x2) rfl) <|
  Eq.trans (mx_bipush t44 d44_12 (v := nI 40) rfl) <|
  (mx_ceq t44 d44_14 (tgt := 22) (by decide))
theorem b44_17 {d : Nat} {S : mm_S} {a0 : Nat} {x1 : Int32} {x2 : Int32} (h0 : mm_rk S a0 = 5) : mm_ex (d + 1) 44 17 [.ref a0, .int x1, .int x2] [] S =
    mm_bd (mm_cl d 45 [.ref a0] S) (fun v S2 => mm_ex (d + 1) 44 21 [.ref a0, .int x1, .int x2] (v.toList ++ []) S2) :=
  Eq.trans (mx_aload_n t44 d44_17 (x := a0) rfl) <|
  (mx_virt (st := []) (k := 5) t44 [] d44_18 vt5_114 rfl rfl (Nat.le_of_ble_eq_true rfl) (Nat.le_of_ble_eq_true rfl) h0)
theorem b44_21 {d : Nat} {S : mm_S} {a0 : Nat} {x1 : Int32} {x2 : Int32} {p0 : Int32} (h0 : narrow .boolean (.int p0) = .int p0) : mm_ex d 44 21 [.ref a0, .int x1, .int x2] [.int p0] S =
    some (some (.int p0), S) :=
  (mx_iret t44 d44_21 (ty := .boolean) rfl h0 (fun h => nomatch h))
theorem b44_22 {d : Nat} {S : mm_S} {a0 : Nat} {x1 : Int32} {x2 : Int32} : mm_ex d 44 22 [.ref a0, .int x1, .int x2] [] S =
    if x1 < (nI 4) then mm_ex d 44 29 [.ref a0, .int x1, .int x2] [] S else mm_ex d 44 27 [.ref a0, .int x1, .int x2] [] S :=
  Eq.trans (mx_iload_n t44 d44_22 (x := x1) rfl) <|
  Eq.trans (mx_iconst t44 d44_23 (v := nI 4) rfl) <|
  (mx_clt t44 d44_24 (tgt := 29) (by decide))
theorem b44_27 {d : Nat} {S : mm_S} {a0 : Nat} {x1 : Int32} {x2 : Int32} : mm_ex d 44 27 [.ref a0, .int x1, .int x2] [] S =
    some (some (.int (nI 0)), S) :=
  Eq.trans (mx_iconst t44 d44_27 (v := nI 0) rfl) <|
  (mx_iret t44 d44_28 (ty := .boolean) rfl rfl (fun h => nomatch h))
theorem b44_29 {d : Nat} {S : mm_S} {a0 : Nat} {x1 : Int32} {x2 : Int32} (h0 : mm_obj S a0 5 = true) : mm_ex d 44 29 [.ref a0, .int x1, .int x2] [] S =
    if x2 = (nI 40) then mm_ex d 44 45 [.ref a0, .int x1, .int x2] [] (mm_uM S a0 2 ((mm_M S a0 2) + (nI 1))) else mm_ex d 44 70 [.ref a0, .int x1, .int x2] [] (mm_uM S a0 2 ((mm_M S a0 2) + (nI 1))) :=
  Eq.trans (mx_aload_n t44 d44_29 (x := a0) rfl) <|
  Eq.trans (mx_dupr t44 d44_30) <|
  Eq.trans (mx_geti t44 d44_31 rfl fl5_26 h0) <|
  Eq.trans (mx_iconst t44 d44_34 (v := nI 1) rfl) <|
  Eq.trans (mx_iadd t44 d44_35) <|
  Eq.trans (mx_puti2 t44 d44_36 fl5_26 rfl h0) <|
  Eq.trans (mx_iload_n t44 d44_39 (x := x2) rfl) <|
  Eq.trans (mx_bipush t44 d44_40 (v := nI 40) rfl) <|
  (mx_cne t44 d44_42 (tgt := 70) (by decide))
theorem b44_45 {d : Nat} {S : mm_S} {a0 : Nat} {x1 : Int32} {x2 : Int32} (h0 : mm_rk S a0 = 5) : mm_ex (d + 1) 44 45 [.ref a0, .int x1, .int x2] [] S =
    mm_bd (mm_cl d 42 [.ref a0, .int (x1 + (nI 1))] S) (fun v S2 => mm_ex (d + 1) 44 52 [.ref a0, .int x1, .int x2] (v.toList ++ []) S2) :=
  Eq.trans (mx_aload_n t44 d44_45 (x := a0) rfl) <|
  Eq.trans (mx_iload_n t44 d44_46 (x := x1) rfl) <|
  Eq.trans (mx_iconst t44 d44_47 (v := nI 1) rfl) <|
  Eq.trans (mx_iadd t44 d44_48) <|
  (mx_virt (st := []) (k := 5) t44 [.int (x1 + (nI 1))] d44_49 vt5_78 rfl rfl (Nat.le_of_ble_eq_true rfl) (Nat.le_of_ble_eq_true rfl) h0)
theorem b44_52 {d : Nat} {S : mm_S} {a0 : Nat} {x1 : Int32} {x2 : Int32} {p0 : Int32} : mm_ex d 44 52 [.ref a0, .int x1, .int x2] [.int p0] S =
    if p0 = nI 0 then mm_ex d 44 68 [.ref a0, .int x1, .int x2] [] S else mm_ex d 44 55 [.ref a0, .int x1, .int x2] [] S :=
  (mx_ieq t44 d44_52 (tgt := 68) (by decide))
theorem b44_55 {d : Nat} {S : mm_S} {a0 : Nat} {x1 : Int32} {x2 : Int32} (h0 : mm_rk S a0 = 5) : mm_ex (d + 1) 44 55 [.ref a0, .int x1, .int x2] [] S =
    mm_bd (mm_cl d 39 [.ref a0, .ref 1000018] S) (fun v S2 => mm_ex (d + 1) 44 61 [.ref a0, .int x1, .int x2] (v.toList ++ []) S2) :=
  Eq.trans (mx_aload_n t44 d44_55 (x := a0) rfl) <|
  Eq.trans (mx_ldc t44 d44_56 (v := .ref 1000018) lc5_117) <|
  (mx_virt (st := []) (k := 5) t44 [.ref 1000018] d44_58 vt5_35 rfl rfl (Nat.le_of_ble_eq_true rfl) (Nat.le_of_ble_eq_true rfl) h0)
theorem b44_61 {d : Nat} {S : mm_S} {a0 : Nat} {x1 : Int32} {x2 : Int32} {p0 : Int32} : mm_ex d 44 61 [.ref a0, .int x1, .int x2] [.int p0] S =
    if p0 = nI 0 then mm_ex d 44 68 [.ref a0, .int x1, .int x2] [] S else mm_ex d 44 64 [.ref a0, .int x1, .int x2] [] S :=
  (mx_ieq t44 d44_61 (tgt := 68) (by decide))
theorem b44_64 {d : Nat} {S : mm_S} {a0 : Nat} {x1 : Int32} {x2 : Int32} : mm_ex d 44 64 [.ref a0, .int x1, .int x2] [] S =
    some (some (.int (nI 1)), S) :=
  Eq.trans (mx_iconst t44 d44_64 (v := nI 1) rfl) <|
  Eq.trans (mx_goto t44 d44_65 (tgt := 69) (by decide)) <|
  (mx_iret t44 d44_69 (ty := .boolean) rfl rfl (fun h => nomatch h))
theorem b44_68 {d : Nat} {S : mm_S} {a0 : Nat} {x1 : Int32} {x2 : Int32} : mm_ex d 44 68 [.ref a0, .int x1, .int x2] [] S =
    some (some (.int (nI 0)), S) :=
  Eq.trans (mx_iconst t44 d44_68 (v := nI 0) rfl) <|
  (mx_iret t44 d44_69 (ty := .boolean) rfl rfl (fun h => nomatch h))
theorem b44_70 {d : Nat} {S : mm_S} {a0 : Nat} {x1 : Int32} {x2 : Int32} (h0 : mm_rk S a0 = 5) : mm_ex (d + 1) 44 70 [.ref a0, .int x1, .int x2] [] S =
    mm_bd (mm_cl d 44 [.ref a0, .int (x1 + (nI 1))] S) (fun v S2 => mm_ex (d + 1) 44 77 [.ref a0, .int x1, .int x2] (v.toList ++ []) S2) :=
  Eq.trans (mx_aload_n t44 d44_70 (x := a0) rfl) <|
  Eq.trans (mx_iload_n t44 d44_71 (x := x1) rfl) <|
  Eq.trans (mx_iconst t44 d44_72 (v := nI 1) rfl) <|
  Eq.trans (mx_iadd t44 d44_73) <|
  (mx_virt (st := []) (k := 5) t44 [.int (x1 + (nI 1))] d44_74 vt5_111 rfl rfl (Nat.le_of_ble_eq_true rfl) (Nat.le_of_ble_eq_true rfl) h0)
theorem b44_77 {d : Nat} {S : mm_S} {a0 : Nat} {x1 : Int32} {x2 : Int32} {p0 : Int32} : mm_ex d 44 77 [.ref a0, .int x1, .int x2] [.int p0] S =
    if p0 = nI 0 then mm_ex d 44 80 [.ref a0, .int x1, .int x2] [] S else mm_ex d 44 82 [.ref a0, .int x1, .int x2] [] S :=
  (mx_ine t44 d44_77 (tgt := 82) (by decide))
theorem b44_80 {d : Nat} {S : mm_S} {a0 : Nat} {x1 : Int32} {x2 : Int32} : mm_ex d 44 80 [.ref a0, .int x1, .int x2] [] S =
    some (some (.int (nI 0)), S) :=
  Eq.trans (mx_iconst t44 d44_80 (v := nI 0) rfl) <|
  (mx_iret t44 d44_81 (ty := .boolean) rfl rfl (fun h => nomatch h))
theorem b44_82 {d : Nat} {S : mm_S} {a0 : Nat} {x1 : Int32} {x2 : Int32} (h0 : mm_obj S a0 5 = true) (h1 : (mm_R S a0 3).isSome = true) (h2 : mm_rk S (mm_rg S a0 3) = 6) : mm_ex (d + 1) 44 82 [.ref a0, .int x1, .int x2] [] S =
    mm_bd (mm_cl d 49 [.ref (mm_rg S a0 3), .int (-1)] S) (fun v S2 => mm_ex (d + 1) 44 90 [.ref a0, .int x1, .int x2] (v.toList ++ []) S2) :=
  Eq.trans (mx_aload_n t44 d44_82 (x := a0) rfl) <|
  Eq.trans (mx_getR t44 d44_83 rfl fl5_17 h0 h1) <|
  Eq.trans (mx_iconst t44 d44_86 (v := -1) rfl) <|
  (mx_virt (st := []) (k := 6) t44 [.int (-1)] d44_87 vt5_107 rfl rfl (Nat.le_of_ble_eq_true rfl) (Nat.le_of_ble_eq_true rfl) h2)
theorem b44_90 {d : Nat} {S : mm_S} {a0 : Nat} {x1 : Int32} {x2 : Int32} : mm_ex d 44 90 [.ref a0, .int x1, .int x2] [] S =
    some (some (.int (nI 1)), S) :=
  Eq.trans (mx_iconst t44 d44_90 (v := nI 1) rfl) <|
  (mx_iret t44 d44_91 (ty := .boolean) rfl rfl (fun h => nomatch h))
theorem e44 {d : Nat} {S : mm_S} {a0 : Nat} {x1 : Int32} : mm_cl d 44 [.ref a0, .int x1] S = mm_ex d 44 0 [.ref a0, .int x1, .null] [] S := mm_cl_eq t44 (Nat.le_of_ble_eq_true rfl) rfl
/-! X5_test -/
theorem dd45_0 : (decode prog_7_method_12_code 0 = .ok (.ldc 119, 2)) ∧ (decode prog_7_method_12_code 2 = .ok (.aload_n 0, 1)) ∧ (decode prog_7_method_12_code 3 = .ok (.invokevirtual 45, 3)) ∧ (decode prog_7_method_12_code 6 = .ok (.i2c, 1)) ∧ (decode prog_7_method_12_code 7 = .ok (.invokevirtual 121, 3)) ∧ (decode prog_7_method_12_code 10 = .ok (.istore_n 1, 1)) ∧ (decode prog_7_method_12_code 11 = .ok (.iload_n 1, 1)) ∧ (decode prog_7_method_12_code 12 = .ok (.ifCond .ge 5, 3)) ∧ (decode prog_7_method_12_code 15 = .ok (.iconst 0, 1)) ∧ (decode prog_7_method_12_code 16 = .ok (.ireturn, 1)) ∧ (decode prog_7_method_12_code 17 = .ok (.aload_n 0, 1)) ∧ (decode prog_7_method_12_code 18 = .ok (.dup, 1)) ∧ (decode prog_7_method_12_code 19 = .ok (.getfield 26, 3)) ∧ (decode prog_7_method_12_code 22 = .ok (.iconst 1, 1)) ∧ (decode prog_7_method_12_code 23 = .ok (.iadd, 1)) ∧ (decode prog_7_method_12_code 24 = .ok (.putfield 26, 3)) := by decide +kernel
theorem d45_0 : decode prog_7_method_12_code 0 = .ok (.ldc 119, 2) := dd45_0.1
theorem d45_2 : decode prog_7_method_12_code 2 = .ok (.aload_n 0, 1) := dd45_0.2.1
theorem d45_3 : decode prog_7_method_12_code 3 = .ok (.invokevirtual 45, 3) := dd45_0.2.2.1
theorem d45_6 : decode prog_7_method_12_code 6 = .ok (.i2c, 1) := dd45_0.2.2.2.1
theorem d45_7 : decode prog_7_method_12_code 7 = .ok (.invokevirtual 121, 3) := dd45_0.2.2.2.2.1
theorem d45_10 : decode prog_7_method_12_code 10 = .ok (.istore_n 1, 1) := dd45_0.2.2.2.2.2.1
theorem d45_11 : decode prog_7_method_12_code 11 = .ok (.iload_n 1, 1) := dd45_0.2.2.2.2.2.2.1
theorem d45_12 : decode prog_7_method_12_code 12 = .ok (.ifCond .ge 5, 3) := dd45_0.2.2.2.2.2.2.2.1
theorem d45_15 : decode prog_7_method_12_code 15 = .ok (.iconst 0, 1) := dd45_0.2.2.2.2.2.2.2.2.1
theorem d45_16 : decode prog_7_method_12_code 16 = .ok (.ireturn, 1) := dd45_0.2.2.2.2.2.2.2.2.2.1
theorem d45_17 : decode prog_7_method_12_code 17 = .ok (.aload_n 0, 1) := dd45_0.2.2.2.2.2.2.2.2.2.2.1
theorem d45_18 : decode prog_7_method_12_code 18 = .ok (.dup, 1) := dd45_0.2.2.2.2.2.2.2.2.2.2.2.1
theorem d45_19 : decode prog_7_method_12_code 19 = .ok (.getfield 26, 3) := dd45_0.2.2.2.2.2.2.2.2.2.2.2.2.1
theorem d45_22 : decode prog_7_method_12_code 22 = .ok (.iconst 1, 1) := dd45_0.2.2.2.2.2.2.2.2.2.2.2.2.2.1
theorem d45_23 : decode prog_7_method_12_code 23 = .ok (.iadd, 1) := dd45_0.2.2.2.2.2.2.2.2.2.2.2.2.2.2.1
theorem d45_24 : decode prog_7_method_12_code 24 = .ok (.putfield 26, 3) := dd45_0.2.2.2.2.2.2.2.2.2.2.2.2.2.2.2
theorem dd45_27 : (decode prog_7_method_12_code 27 = .ok (.ldc 125, 2)) ∧ (decode prog_7_method_12_code 29 = .ok (.aload_n 0, 1)) ∧ (decode prog_7_method_12_code 30 = .ok (.invokevirtual 45, 3)) ∧ (decode prog_7_method_12_code 33 = .ok (.i2c, 1)) ∧ (decode prog_7_method_12_code 34 = .ok (.invokevirtual 121, 3)) ∧ (decode prog_7_method_12_code 37 = .ok (.istore_n 2, 1)) ∧ (decode prog_7_method_12_code 38 = .ok (.iload_n 2, 1)) ∧ (decode prog_7_method_12_code 39 = .ok (.ifCond .ge 5, 3)) ∧ (decode prog_7_method_12_code 42 = .ok (.iconst 0, 1)) ∧ (decode prog_7_method_12_code 43 = .ok (.ireturn, 1)) ∧ (decode prog_7_method_12_code 44 = .ok (.aload_n 0, 1)) ∧ (decode prog_7_method_12_code 45 = .ok (.dup, 1)) ∧ (decode prog_7_method_12_code 46 = .ok (.getfield 26, 3)) ∧ (decode prog_7_method_12_code 49 = .ok (.iconst 1, 1)) ∧ (decode prog_7_method_12_code 50 = .ok (.iadd, 1)) ∧ (decode prog_7_method_12_code 51 = .ok (.putfield 26, 3)) := by decide +kernel
theorem d45_27 : decode prog_7_method_12_code 27 = .ok (.ldc 125, 2) := dd45_27.1
theorem d45_29 : decode prog_7_method_12_code 29 = .ok (.aload_n 0, 1) := dd45_27.2.1
theorem d45_30 : decode prog_7_method_12_code 30 = .ok (.invokevirtual 45, 3) := dd45_27.2.2.1
theorem d45_33 : decode prog_7_method_12_code 33 = .ok (.i2c, 1) := dd45_27.2.2.2.1
theorem d45_34 : decode prog_7_method_12_code 34 = .ok (.invokevirtual 121, 3) := dd45_27.2.2.2.2.1
theorem d45_37 : decode prog_7_method_12_code 37 = .ok (.istore_n 2, 1) := dd45_27.2.2.2.2.2.1
theorem d45_38 : decode prog_7_method_12_code 38 = .ok (.iload_n 2, 1) := dd45_27.2.2.2.2.2.2.1
theorem d45_39 : decode prog_7_method_12_code 39 = .ok (.ifCond .ge 5, 3) := dd45_27.2.2.2.2.2.2.2.1
theorem d45_42 : decode prog_7_method_12_code 42 = .ok (.iconst 0, 1) := dd45_27.2.2.2.2.2.2.2.2.1
theorem d45_43 : decode prog_7_method_12_code 43 = .ok (.ireturn, 1) := dd45_27.2.2.2.2.2.2.2.2.2.1
theorem d45_44 : decode prog_7_method_12_code 44 = .ok (.aload_n 0, 1) := dd45_27.2.2.2.2.2.2.2.2.2.2.1
theorem d45_45 : decode prog_7_method_12_code 45 = .ok (.dup, 1) := dd45_27.2.2.2.2.2.2.2.2.2.2.2.1
theorem d45_46 : decode prog_7_method_12_code 46 = .ok (.getfield 26, 3) := dd45_27.2.2.2.2.2.2.2.2.2.2.2.2.1
theorem d45_49 : decode prog_7_method_12_code 49 = .ok (.iconst 1, 1) := dd45_27.2.2.2.2.2.2.2.2.2.2.2.2.2.1
theorem d45_50 : decode prog_7_method_12_code 50 = .ok (.iadd, 1) := dd45_27.2.2.2.2.2.2.2.2.2.2.2.2.2.2.1
theorem d45_51 : decode prog_7_method_12_code 51 = .ok (.putfield 26, 3) := dd45_27.2.2.2.2.2.2.2.2.2.2.2.2.2.2.2
theorem dd45_54 : (decode prog_7_method_12_code 54 = .ok (.aload_n 0, 1)) ∧ (decode prog_7_method_12_code 55 = .ok (.invokevirtual 73, 3)) ∧ (decode prog_7_method_12_code 58 = .ok (.istore_n 3, 1)) ∧ (decode prog_7_method_12_code 59 = .ok (.iload_n 3, 1)) ∧ (decode prog_7_method_12_code 60 = .ok (.ifCond .ge 5, 3)) ∧ (decode prog_7_method_12_code 63 = .ok (.iconst 0, 1)) ∧ (decode prog_7_method_12_code 64 = .ok (.ireturn, 1)) ∧ (decode prog_7_method_12_code 65 = .ok (.aload_n 0, 1)) ∧ (decode prog_7_method_12_code 66 = .ok (.getfield 17, 3)) ∧ (decode prog_7_method_12_code 69 = .ok (.iload_n 1, 1)) ∧ (decode prog_7_method_12_code 70 = .ok (.iload_n 2, 1)) ∧ (decode prog_7_method_12_code 71 = .ok (.iload_n 3, 1)) ∧ (decode prog_7_method_12_code 72 = .ok (.invokestatic 127, 3)) ∧ (decode prog_7_method_12_code 75 = .ok (.invokevirtual 107, 3)) ∧ (decode prog_7_method_12_code 78 = .ok (.iconst 1, 1)) ∧ (decode prog_7_method_12_code 79 = .ok (.ireturn, 1)) := by decide +kernel
theorem d45_54 : decode prog_7_method_12_code 54 = .ok (.aload_n 0, 1) := dd45_54.1
theorem d45_55 : decode prog_7_method_12_code 55 = .ok (.invokevirtual 73, 3) := dd45_54.2.1
theorem d45_58 : decode prog_7_method_12_code 58 = .ok (.istore_n 3, 1) := dd45_54.2.2.1
theorem d45_59 : decode prog_7_method_12_code 59 = .ok (.iload_n 3, 1) := dd45_54.2.2.2.1
theorem d45_60 : decode prog_7_method_12_code 60 = .ok (.ifCond .ge 5, 3) := dd45_54.2.2.2.2.1
theorem d45_63 : decode prog_7_method_12_code 63 = .ok (.iconst 0, 1) := dd45_54.2.2.2.2.2.1
theorem d45_64 : decode prog_7_method_12_code 64 = .ok (.ireturn, 1) := dd45_54.2.2.2.2.2.2.1
theorem d45_65 : decode prog_7_method_12_code 65 = .ok (.aload_n 0, 1) := dd45_54.2.2.2.2.2.2.2.1
theorem d45_66 : decode prog_7_method_12_code 66 = .ok (.getfield 17, 3) := dd45_54.2.2.2.2.2.2.2.2.1
theorem d45_69 : decode prog_7_method_12_code 69 = .ok (.iload_n 1, 1) := dd45_54.2.2.2.2.2.2.2.2.2.1
theorem d45_70 : decode prog_7_method_12_code 70 = .ok (.iload_n 2, 1) := dd45_54.2.2.2.2.2.2.2.2.2.2.1
theorem d45_71 : decode prog_7_method_12_code 71 = .ok (.iload_n 3, 1) := dd45_54.2.2.2.2.2.2.2.2.2.2.2.1
theorem d45_72 : decode prog_7_method_12_code 72 = .ok (.invokestatic 127, 3) := dd45_54.2.2.2.2.2.2.2.2.2.2.2.2.1
theorem d45_75 : decode prog_7_method_12_code 75 = .ok (.invokevirtual 107, 3) := dd45_54.2.2.2.2.2.2.2.2.2.2.2.2.2.1
theorem d45_78 : decode prog_7_method_12_code 78 = .ok (.iconst 1, 1) := dd45_54.2.2.2.2.2.2.2.2.2.2.2.2.2.2.1
theorem d45_79 : decode prog_7_method_12_code 79 = .ok (.ireturn, 1) := dd45_54.2.2.2.2.2.2.2.2.2.2.2.2.2.2.2
theorem b45_0 {d : Nat} {S : mm_S} {a0 : Nat} (h0 : mm_rk S a0 = 5) : mm_ex (d + 1) 45 0 [.ref a0, .null, .null, .null] [] S =
    mm_bd (mm_cl d 38 [.ref a0] S) (fun v S2 => mm_ex (d + 1) 45 6 [.ref a0, .null, .null, .null] (v.toList ++ [.ref 1000020]) S2) :=
  Eq.trans (mx_ldc t45 d45_0 (v := .ref 1000020) lc5_119) <|
  Eq.trans (mx_aload_n t45 d45_2 (x := a0) rfl) <|
  (mx_virt (st := [.ref 1000020]) (k := 5) t45 [] d45_3 vt5_45 rfl rfl (Nat.le_of_ble_eq_true rfl) (Nat.le_of_ble_eq_true rfl) h0)
theorem b45_6 {d : Nat} {S : mm_S} {a0 : Nat} {p0 : Int32} {p1 : Nat} (h0 : mm_rk S p1 = 100) : mm_ex (d + 1) 45 6 [.ref a0, .null, .null, .null] [.int p0, .ref p1] S =
    mm_bd (mm_cl d 215 [.ref p1, .int ((p0.toUInt32 % 65536).toInt32)] S) (fun v S2 => mm_ex (d + 1) 45 10 [.ref a0, .null, .null, .null] (v.toList ++ []) S2) :=
  Eq.trans (mx_i2c t45 d45_6) <|
  (mx_virt (st := []) (k := 100) t45 [.int ((p0.toUInt32 % 65536).toInt32)] d45_7 vt5_121 rfl rfl (Nat.le_of_ble_eq_true rfl) (Nat.le_of_ble_eq_true rfl) h0)
theorem b45_10 {d : Nat} {S : mm_S} {a0 : Nat} {p0 : Int32} : mm_ex d 45 10 [.ref a0, .null, .null, .null] [.int p0] S =
    if nI 0 ≤ p0 then mm_ex d 45 17 [.ref a0, .int p0, .null, .null] [] S else mm_ex d 45 15 [.ref a0, .int p0, .null, .null] [] S :=
  Eq.trans (mx_istore_n t45 d45_10 (ls' := [.ref a0, .int p0, .null, .null]) rfl rfl) <|
  Eq.trans (mx_iload_n t45 d45_11 (x := p0) rfl) <|
  (mx_ige t45 d45_12 (tgt := 17) (by decide))
theorem b45_15 {d : Nat} {S : mm_S} {a0 : Nat} {x1 : Int32} : mm_ex d 45 15 [.ref a0, .int x1, .null, .null] [] S =
    some (some (.int (nI 0)), S) :=
  Eq.trans (mx_iconst t45 d45_15 (v := nI 0) rfl) <|
  (mx_iret t45 d45_16 (ty := .boolean) rfl rfl (fun h => nomatch h))
theorem b45_17 {d : Nat} {S : mm_S} {a0 : Nat} {x1 : Int32} (h0 : mm_obj S a0 5 = true) (h1 : mm_rk S a0 = 5) : mm_ex (d + 1) 45 17 [.ref a0, .int x1, .null, .null] [] S =
    mm_bd (mm_cl d 38 [.ref a0] (mm_uM S a0 2 ((mm_M S a0 2) + (nI 1)))) (fun v S2 => mm_ex (d + 1) 45 33 [.ref a0, .int x1, .null, .null] (v.toList ++ [.ref 1000022]) S2) :=
  Eq.trans (mx_aload_n t45 d45_17 (x := a0) rfl) <|
  Eq.trans (mx_dupr t45 d45_18) <|
  Eq.trans (mx_geti t45 d45_19 rfl fl5_26 h0) <|
  Eq.trans (mx_iconst t45 d45_22 (v := nI 1) rfl) <|
  Eq.trans (mx_iadd t45 d45_23) <|
  Eq.trans (mx_puti2 t45 d45_24 fl5_26 rfl h0) <|
  Eq.trans (mx_ldc t45 d45_27 (v := .ref 1000022) lc5_125) <|
  Eq.trans (mx_aload_n t45 d45_29 (x := a0) rfl) <|
  (mx_virt (st := [.ref 1000022]) (k := 5) t45 [] d45_30 vt5_45 rfl rfl (Nat.le_of_ble_eq_true rfl) (Nat.le_of_ble_eq_true rfl) h1)
theorem b45_33 {d : Nat} {S : mm_S} {a0 : Nat} {x1 : Int32} {p0 : Int32} {p1 : Nat} (h0 : mm_rk S p1 = 100) : mm_ex (d + 1) 45 33 [.ref a0, .int x1, .null, .null] [.int p0, .ref p1] S =
    mm_bd (mm_cl d 215 [.ref p1, .int ((p0.toUInt32 % 65536).toInt32)] S) (fun v S2 => mm_ex (d + 1) 45 37 [.ref a0, .int x1, .null, .null] (v.toList ++ []) S2) :=
  Eq.trans (mx_i2c t45 d45_33) <|
  (mx_virt (st := []) (k := 100) t45 [.int ((p0.toUInt32 % 65536).toInt32)] d45_34 vt5_121 rfl rfl (Nat.le_of_ble_eq_true rfl) (Nat.le_of_ble_eq_true rfl) h0)
theorem b45_37 {d : Nat} {S : mm_S} {a0 : Nat} {x1 : Int32} {p0 : Int32} : mm_ex d 45 37 [.ref a0, .int x1, .null, .null] [.int p0] S =
    if nI 0 ≤ p0 then mm_ex d 45 44 [.ref a0, .int x1, .int p0, .null] [] S else mm_ex d 45 42 [.ref a0, .int x1, .int p0, .null] [] S :=
  Eq.trans (mx_istore_n t45 d45_37 (ls' := [.ref a0, .int x1, .int p0, .null]) rfl rfl) <|
  Eq.trans (mx_iload_n t45 d45_38 (x := p0) rfl) <|
  (mx_ige t45 d45_39 (tgt := 44) (by decide))
theorem b45_42 {d : Nat} {S : mm_S} {a0 : Nat} {x1 : Int32} {x2 : Int32} : mm_ex d 45 42 [.ref a0, .int x1, .int x2, .null] [] S =
    some (some (.int (nI 0)), S) :=
  Eq.trans (mx_iconst t45 d45_42 (v := nI 0) rfl) <|
  (mx_iret t45 d45_43 (ty := .boolean) rfl rfl (fun h => nomatch h))
theorem b45_44 {d : Nat} {S : mm_S} {a0 : Nat} {x1 : Int32} {x2 : Int32} (h0 : mm_obj S a0 5 = true) (h1 : mm_rk S a0 = 5) : mm_ex (d + 1) 45 44 [.ref a0, .int x1, .int x2, .null] [] S =
    mm_bd (mm_cl d 46 [.ref a0] (mm_uM S a0 2 ((mm_M S a0 2) + (nI 1)))) (fun v S2 => mm_ex (d + 1) 45 58 [.ref a0, .int x1, .int x2, .null] (v.toList ++ []) S2) :=
  Eq.trans (mx_aload_n t45 d45_44 (x := a0) rfl) <|
  Eq.trans (mx_dupr t45 d45_45) <|
  Eq.trans (mx_geti t45 d45_46 rfl fl5_26 h0) <|
  Eq.trans (mx_iconst t45 d45_49 (v := nI 1) rfl) <|
  Eq.trans (mx_iadd t45 d45_50) <|
  Eq.trans (mx_puti2 t45 d45_51 fl5_26 rfl h0) <|
  Eq.trans (mx_aload_n t45 d45_54 (x := a0) rfl) <|
  (mx_virt (st := []) (k := 5) t45 [] d45_55 vt5_73 rfl rfl (Nat.le_of_ble_eq_true rfl) (Nat.le_of_ble_eq_true rfl) h1)
theorem b45_58 {d : Nat} {S : mm_S} {a0 : Nat} {x1 : Int32} {x2 : Int32} {p0 : Int32} : mm_ex d 45 58 [.ref a0, .int x1, .int x2, .null] [.int p0] S =
    if nI 0 ≤ p0 then mm_ex d 45 65 [.ref a0, .int x1, .int x2, .int p0] [] S else mm_ex d 45 63 [.ref a0, .int x1, .int x2, .int p0] [] S :=
  Eq.trans (mx_istore_n t45 d45_58 (ls' := [.ref a0, .int x1, .int x2, .int p0]) rfl rfl) <|
  Eq.trans (mx_iload_n t45 d45_59 (x := p0) rfl) <|
  (mx_ige t45 d45_60 (tgt := 65) (by decide))
theorem b45_63 {d : Nat} {S : mm_S} {a0 : Nat} {x1 : Int32} {x2 : Int32} {x3 : Int32} : mm_ex d 45 63 [.ref a0, .int x1, .int x2, .int x3] [] S =
    some (some (.int (nI 0)), S) :=
  Eq.trans (mx_iconst t45 d45_63 (v := nI 0) rfl) <|
  (mx_iret t45 d45_64 (ty := .boolean) rfl rfl (fun h => nomatch h))
theorem b45_65 {d : Nat} {S : mm_S} {a0 : Nat} {x1 : Int32} {x2 : Int32} {x3 : Int32} (h0 : mm_obj S a0 5 = true) (h1 : (mm_R S a0 3).isSome = true) : mm_ex (d + 1) 45 65 [.ref a0, .int x1, .int x2, .int x3] [] S =
    mm_bd (mm_cl d 50 [.int x1, .int x2, .int x3] S) (fun v S2 => mm_ex (d + 1) 45 75 [.ref a0, .int x1, .int x2, .int x3] (v.toList ++ [.ref (mm_rg S a0 3)]) S2) :=
  Eq.trans (mx_aload_n t45 d45_65 (x := a0) rfl) <|
  Eq.trans (mx_getR t45 d45_66 rfl fl5_17 h0 h1) <|
  Eq.trans (mx_iload_n t45 d45_69 (x := x1) rfl) <|
  Eq.trans (mx_iload_n t45 d45_70 (x := x2) rfl) <|
  Eq.trans (mx_iload_n t45 d45_71 (x := x3) rfl) <|
  (mx_stat (st := [.ref (mm_rg S a0 3)]) t45 [.int x1, .int x2, .int x3] d45_72 acn5_127 mxn5_127 st5_127 rfl (Nat.le_of_ble_eq_true rfl) (Nat.le_of_ble_eq_true rfl))
theorem b45_75 {d : Nat} {S : mm_S} {a0 : Nat} {x1 : Int32} {x2 : Int32} {x3 : Int32} {p0 : Int32} {p1 : Nat} (h0 : mm_rk S p1 = 6) : mm_ex (d + 1) 45 75 [.ref a0, .int x1, .int x2, .int x3] [.int p0, .ref p1] S =
    mm_bd (mm_cl d 49 [.ref p1, .int p0] S) (fun v S2 => mm_ex (d + 1) 45 78 [.ref a0, .int x1, .int x2, .int x3] (v.toList ++ []) S2) :=
  (mx_virt (st := []) (k := 6) t45 [.int p0] d45_75 vt5_107 rfl rfl (Nat.le_of_ble_eq_true rfl) (Nat.le_of_ble_eq_true rfl) h0)
theorem b45_78 {d : Nat} {S : mm_S} {a0 : Nat} {x1 : Int32} {x2 : Int32} {x3 : Int32} : mm_ex d 45 78 [.ref a0, .int x1, .int x2, .int x3] [] S =
    some (some (.int (nI 1)), S) :=
  Eq.trans (mx_iconst t45 d45_78 (v := nI 1) rfl) <|
  (mx_iret t45 d45_79 (ty := .boolean) rfl rfl (fun h => nomatch h))
theorem e45 {d : Nat} {S : mm_S} {a0 : Nat} : mm_cl d 45 [.ref a0] S = mm_ex d 45 0 [.ref a0, .null, .null, .null] [] S := mm_cl_eq t45 (Nat.le_of_ble_eq_true rfl) rfl
/-! X5_number -/
theorem dd46_0 : (decode prog_7_method_13_code 0 = .ok (.aload_n 0, 1)) ∧ (decode prog_7_method_13_code 1 = .ok (.getfield 26, 3)) ∧ (decode prog_7_method_13_code 4 = .ok (.istore_n 1, 1)) ∧ (decode prog_7_method_13_code 5 = .ok (.iconst 0, 1)) ∧ (decode prog_7_method_13_code 6 = .ok (.istore_n 2, 1)) ∧ (decode prog_7_method_13_code 7 = .ok (.aload_n 0, 1)) ∧ (decode prog_7_method_13_code 8 = .ok (.getfield 26, 3)) ∧ (decode prog_7_method_13_code 11 = .ok (.aload_n 0, 1)) ∧ (decode prog_7_method_13_code 12 = .ok (.getfield 13, 3)) ∧ (decode prog_7_method_13_code 15 = .ok (.if_icmp .ge 72, 3)) ∧ (decode prog_7_method_13_code 18 = .ok (.aload_n 0, 1)) ∧ (decode prog_7_method_13_code 19 = .ok (.getfield 26, 3)) ∧ (decode prog_7_method_13_code 22 = .ok (.iload_n 1, 1)) ∧ (decode prog_7_method_13_code 23 = .ok (.iconst 2, 1)) ∧ (decode prog_7_method_13_code 24 = .ok (.iadd, 1)) ∧ (decode prog_7_method_13_code 25 = .ok (.if_icmp .ge 62, 3)) := by decide +kernel
theorem d46_0 : decode prog_7_method_13_code 0 = .ok (.aload_n 0, 1) := dd46_0.1
theorem d46_1 : decode prog_7_method_13_code 1 = .ok (.getfield 26, 3) := dd46_0.2.1
theorem d46_4 : decode prog_7_method_13_code 4 = .ok (.istore_n 1, 1) := dd46_0.2.2.1
theorem d46_5 : decode prog_7_method_13_code 5 = .ok (.iconst 0, 1) := dd46_0.2.2.2.1
theorem d46_6 : decode prog_7_method_13_code 6 = .ok (.istore_n 2, 1) := dd46_0.2.2.2.2.1
theorem d46_7 : decode prog_7_method_13_code 7 = .ok (.aload_n 0, 1) := dd46_0.2.2.2.2.2.1
theorem d46_8 : decode prog_7_method_13_code 8 = .ok (.getfield 26, 3) := dd46_0.2.2.2.2.2.2.1
theorem d46_11 : decode prog_7_method_13_code 11 = .ok (.aload_n 0, 1) := dd46_0.2.2.2.2.2.2.2.1
theorem d46_12 : decode prog_7_method_13_code 12 = .ok (.getfield 13, 3) := dd46_0.2.2.2.2.2.2.2.2.1
theorem d46_15 : decode prog_7_method_13_code 15 = .ok (.if_icmp .ge 72, 3) := dd46_0.2.2.2.2.2.2.2.2.2.1
theorem d46_18 : decode prog_7_method_13_code 18 = .ok (.aload_n 0, 1) := dd46_0.2.2.2.2.2.2.2.2.2.2.1
theorem d46_19 : decode prog_7_method_13_code 19 = .ok (.getfield 26, 3) := dd46_0.2.2.2.2.2.2.2.2.2.2.2.1
theorem d46_22 : decode prog_7_method_13_code 22 = .ok (.iload_n 1, 1) := dd46_0.2.2.2.2.2.2.2.2.2.2.2.2.1
theorem d46_23 : decode prog_7_method_13_code 23 = .ok (.iconst 2, 1) := dd46_0.2.2.2.2.2.2.2.2.2.2.2.2.2.1
theorem d46_24 : decode prog_7_method_13_code 24 = .ok (.iadd, 1) := dd46_0.2.2.2.2.2.2.2.2.2.2.2.2.2.2.1
theorem d46_25 : decode prog_7_method_13_code 25 = .ok (.if_icmp .ge 62, 3) := dd46_0.2.2.2.2.2.2.2.2.2.2.2.2.2.2.2
theorem dd46_28 : (decode prog_7_method_13_code 28 = .ok (.aload_n 0, 1)) ∧ (decode prog_7_method_13_code 29 = .ok (.getfield 9, 3)) ∧ (decode prog_7_method_13_code 32 = .ok (.aload_n 0, 1)) ∧ (decode prog_7_method_13_code 33 = .ok (.getfield 26, 3)) ∧ (decode prog_7_method_13_code 36 = .ok (.iaload, 1)) ∧ (decode prog_7_method_13_code 37 = .ok (.bipush 48, 2)) ∧ (decode prog_7_method_13_code 39 = .ok (.if_icmp .lt 48, 3)) ∧ (decode prog_7_method_13_code 42 = .ok (.aload_n 0, 1)) ∧ (decode prog_7_method_13_code 43 = .ok (.getfield 9, 3)) ∧ (decode prog_7_method_13_code 46 = .ok (.aload_n 0, 1)) ∧ (decode prog_7_method_13_code 47 = .ok (.getfield 26, 3)) ∧ (decode prog_7_method_13_code 50 = .ok (.iaload, 1)) ∧ (decode prog_7_method_13_code 51 = .ok (.bipush 57, 2)) ∧ (decode prog_7_method_13_code 53 = .ok (.if_icmp .gt 34, 3)) ∧ (decode prog_7_method_13_code 56 = .ok (.bipush 10, 2)) ∧ (decode prog_7_method_13_code 58 = .ok (.iload_n 2, 1)) := by decide +kernel
theorem d46_28 : decode prog_7_method_13_code 28 = .ok (.aload_n 0, 1) := dd46_28.1
theorem d46_29 : decode prog_7_method_13_code 29 = .ok (.getfield 9, 3) := dd46_28.2.1
theorem d46_32 : decode prog_7_method_13_code 32 = .ok (.aload_n 0, 1) := dd46_28.2.2.1
theorem d46_33 : decode prog_7_method_13_code 33 = .ok (.getfield 26, 3) := dd46_28.2.2.2.1
theorem d46_36 : decode prog_7_method_13_code 36 = .ok (.iaload, 1) := dd46_28.2.2.2.2.1
theorem d46_37 : decode prog_7_method_13_code 37 = .ok (.bipush 48, 2) := dd46_28.2.2.2.2.2.1
theorem d46_39 : decode prog_7_method_13_code 39 = .ok (.if_icmp .lt 48, 3) := dd46_28.2.2.2.2.2.2.1
theorem d46_42 : decode prog_7_method_13_code 42 = .ok (.aload_n 0, 1) := dd46_28.2.2.2.2.2.2.2.1
theorem d46_43 : decode prog_7_method_13_code 43 = .ok (.getfield 9, 3) := dd46_28.2.2.2.2.2.2.2.2.1
theorem d46_46 : decode prog_7_method_13_code 46 = .ok (.aload_n 0, 1) := dd46_28.2.2.2.2.2.2.2.2.2.1
theorem d46_47 : decode prog_7_method_13_code 47 = .ok (.getfield 26, 3) := dd46_28.2.2.2.2.2.2.2.2.2.2.1
theorem d46_50 : decode prog_7_method_13_code 50 = .ok (.iaload, 1) := dd46_28.2.2.2.2.2.2.2.2.2.2.2.1
theorem d46_51 : decode prog_7_method_13_code 51 = .ok (.bipush 57, 2) := dd46_28.2.2.2.2.2.2.2.2.2.2.2.2.1
theorem d46_53 : decode prog_7_method_13_code 53 = .ok (.if_icmp .gt 34, 3) := dd46_28.2.2.2.2.2.2.2.2.2.2.2.2.2.1
theorem d46_56 : decode prog_7_method_13_code 56 = .ok (.bipush 10, 2) := dd46_28.2.2.2.2.2.2.2.2.2.2.2.2.2.2.1
theorem d46_58 : decode prog_7_method_13_code 58 = .ok (.iload_n 2, 1) := dd46_28.2.2.2.2.2.2.2.2.2.2.2.2.2.2.2
theorem dd46_59 : (decode prog_7_method_13_code 59 = .ok (.imul, 1)) ∧ (decode prog_7_method_13_code 60 = .ok (.aload_n 0, 1)) ∧ (decode prog_7_method_13_code 61 = .ok (.getfield 9, 3)) ∧ (decode prog_7_method_13_code 64 = .ok (.aload_n 0, 1)) ∧ (decode prog_7_method_13_code 65 = .ok (.getfield 26, 3)) ∧ (decode prog_7_method_13_code 68 = .ok (.iaload, 1)) ∧ (decode prog_7_method_13_code 69 = .ok (.iadd, 1)) ∧ (decode prog_7_method_13_code 70 = .ok (.bipush 48, 2)) ∧ (decode prog_7_method_13_code 72 = .ok (.isub, 1)) ∧ (decode prog_7_method_13_code 73 = .ok (.istore_n 2, 1)) ∧ (decode prog_7_method_13_code 74 = .ok (.aload_n 0, 1)) ∧ (decode prog_7_method_13_code 75 = .ok (.dup, 1)) ∧ (decode prog_7_method_13_code 76 = .ok (.getfield 26, 3)) ∧ (decode prog_7_method_13_code 79 = .ok (.iconst 1, 1)) ∧ (decode prog_7_method_13_code 80 = .ok (.iadd, 1)) ∧ (decode prog_7_method_13_code 81 = .ok (.putfield 26, 3)) := by decide +kernel
theorem d46_59 : decode prog_7_method_13_code 59 = .ok (.imul, 1) := dd46_59.1
theorem d46_60 : decode prog_7_method_13_code 60 = .ok (.aload_n 0, 1) := dd46_59.2.1
theorem d46_61 : decode prog_7_method_13_code 61 = .ok (.getfield 9, 3) := dd46_59.2.2.1
theorem d46_64 : decode prog_7_method_13_code 64 = .ok (.aload_n 0, 1) := dd46_59.2.2.2.1
theorem d46_65 : decode prog_7_method_13_code 65 = .ok (.getfield 26, 3) := dd46_59.2.2.2.2.1
theorem d46_68 : decode prog_7_method_13_code 68 = .ok (.iaload, 1) := dd46_59.2.2.2.2.2.1
theorem d46_69 : decode prog_7_method_13_code 69 = .ok (.iadd, 1) := dd46_59.2.2.2.2.2.2.1
theorem d46_70 : decode prog_7_method_13_code 70 = .ok (.bipush 48, 2) := dd46_59.2.2.2.2.2.2.2.1
theorem d46_72 : decode prog_7_method_13_code 72 = .ok (.isub, 1) := dd46_59.2.2.2.2.2.2.2.2.1
theorem d46_73 : decode prog_7_method_13_code 73 = .ok (.istore_n 2, 1) := dd46_59.2.2.2.2.2.2.2.2.2.1
theorem d46_74 : decode prog_7_method_13_code 74 = .ok (.aload_n 0, 1) := dd46_59.2.2.2.2.2.2.2.2.2.2.1
theorem d46_75 : decode prog_7_method_13_code 75 = .ok (.dup, 1) := dd46_59.2.2.2.2.2.2.2.2.2.2.2.1
theorem d46_76 : decode prog_7_method_13_code 76 = .ok (.getfield 26, 3) := dd46_59.2.2.2.2.2.2.2.2.2.2.2.2.1
theorem d46_79 : decode prog_7_method_13_code 79 = .ok (.iconst 1, 1) := dd46_59.2.2.2.2.2.2.2.2.2.2.2.2.2.1
theorem d46_80 : decode prog_7_method_13_code 80 = .ok (.iadd, 1) := dd46_59.2.2.2.2.2.2.2.2.2.2.2.2.2.2.1
theorem d46_81 : decode prog_7_method_13_code 81 = .ok (.putfield 26, 3) := dd46_59.2.2.2.2.2.2.2.2.2.2.2.2.2.2.2
theorem dd46_84 : (decode prog_7_method_13_code 84 = .ok (.goto (-77), 3)) ∧ (decode prog_7_method_13_code 87 = .ok (.aload_n 0, 1)) ∧ (decode prog_7_method_13_code 88 = .ok (.getfield 26, 3)) ∧ (decode prog_7_method_13_code 91 = .ok (.iload_n 1, 1)) ∧ (decode prog_7_method_13_code 92 = .ok (.if_icmp .ne 7, 3)) ∧ (decode prog_7_method_13_code 95 = .ok (.iconst (-1), 1)) ∧ (decode prog_7_method_13_code 96 = .ok (.goto 4, 3)) ∧ (decode prog_7_method_13_code 99 = .ok (.iload_n 2, 1)) ∧ (decode prog_7_method_13_code 100 = .ok (.ireturn, 1)) := by decide +kernel
theorem d46_84 : decode prog_7_method_13_code 84 = .ok (.goto (-77), 3) := dd46_84.1
theorem d46_87 : decode prog_7_method_13_code 87 = .ok (.aload_n 0, 1) := dd46_84.2.1
theorem d46_88 : decode prog_7_method_13_code 88 = .ok (.getfield 26, 3) := dd46_84.2.2.1
theorem d46_91 : decode prog_7_method_13_code 91 = .ok (.iload_n 1, 1) := dd46_84.2.2.2.1
theorem d46_92 : decode prog_7_method_13_code 92 = .ok (.if_icmp .ne 7, 3) := dd46_84.2.2.2.2.1
theorem d46_95 : decode prog_7_method_13_code 95 = .ok (.iconst (-1), 1) := dd46_84.2.2.2.2.2.1
theorem d46_96 : decode prog_7_method_13_code 96 = .ok (.goto 4, 3) := dd46_84.2.2.2.2.2.2.1
theorem d46_99 : decode prog_7_method_13_code 99 = .ok (.iload_n 2, 1) := dd46_84.2.2.2.2.2.2.2.1
theorem d46_100 : decode prog_7_method_13_code 100 = .ok (.ireturn, 1) := dd46_84.2.2.2.2.2.2.2.2
theorem b46_0 {d : Nat} {S : mm_S} {a0 : Nat} (h0 : mm_obj S a0 5 = true) : mm_ex d 46 0 [.ref a0, .null, .null] [] S =
    mm_ex d 46 7 [.ref a0, .int (mm_M S a0 2), .int (nI 0)] [] S :=
  Eq.trans (mx_aload_n t46 d46_0 (x := a0) rfl) <|
  Eq.trans (mx_geti t46 d46_1 rfl fl5_26 h0) <|
  Eq.trans (mx_istore_n t46 d46_4 (ls' := [.ref a0, .int (mm_M S a0 2), .null]) rfl rfl) <|
  Eq.trans (mx_iconst t46 d46_5 (v := nI 0) rfl) <|
  (mx_istore_n t46 d46_6 (ls' := [.ref a0, .int (mm_M S a0 2), .int (nI 0)]) rfl rfl)
theorem b46_7 {d : Nat} {S : mm_S} {a0 : Nat} {x1 : Int32} {x2 : Int32} (h0 : mm_obj S a0 5 = true) : mm_ex d 46 7 [.ref a0, .int x1, .int x2] [] S =
    if (mm_M S a0 0) ≤ (mm_M S a0 2) then mm_ex d 46 87 [.ref a0, .int x1, .int x2] [] S else mm_ex d 46 18 [.ref a0, .int x1, .int x2] [] S :=
  Eq.trans (mx_aload_n t46 d46_7 (x := a0) rfl) <|
  Eq.trans (mx_geti t46 d46_8 rfl fl5_26 h0) <|
  Eq.trans (mx_aload_n t46 d46_11 (x := a0) rfl) <|
  Eq.trans (mx_geti t46 d46_12 rfl fl5_13 h0) <|
  (mx_cge t46 d46_15 (tgt := 87) (by decide))
theorem b46_18 {d : Nat} {S : mm_S} {a0 : Nat} {x1 : Int32} {x2 : Int32} (h0 : mm_obj S a0 5 = true) : mm_ex d 46 18 [.ref a0, .int x1, .int x2] [] S =
    if (x1 + (nI 2)) ≤ (mm_M S a0 2) then mm_ex d 46 87 [.ref a0, .int x1, .int x2] [] S else mm_ex d 46 28 [.ref a0, .int x1, .int x2] [] S :=
  Eq.trans (mx_aload_n t46 d46_18 (x := a0) rfl) <|
  Eq.trans (mx_geti t46 d46_19 rfl fl5_26 h0) <|
  Eq.trans (mx_iload_n t46 d46_22 (x := x1) rfl) <|
  Eq.trans (mx_iconst t46 d46_23 (v := nI 2) rfl) <|
  Eq.trans (mx_iadd t46 d46_24) <|
  (mx_cge t46 d46_25 (tgt := 87) (by decide))
theorem b46_28 {d : Nat} {S : mm_S} {a0 : Nat} {x1 : Int32} {x2 : Int32} (h0 : mm_obj S a0 5 = true) (h1 : (mm_R S a0 1).isSome = true) (h2 : mm_inb (mm_M S a0 2) (mm_N S (mm_rg S a0 1)) = true) (h3 : mm_arr S (mm_rg S a0 1) 13 = true) : mm_ex d 46 28 [.ref a0, .int x1, .int x2] [] S =
    if (mm_M S (mm_rg S a0 1) (mm_M S a0 2).toNatClampNeg) < (nI 48) then mm_ex d 46 87 [.ref a0, .int x1, .int x2] [] S else mm_ex d 46 42 [.ref a0, .int x1, .int x2] [] S :=
  Eq.trans (mx_aload_n t46 d46_28 (x := a0) rfl) <|
  Eq.trans (mx_getR t46 d46_29 rfl fl5_9 h0 h1) <|
  Eq.trans (mx_aload_n t46 d46_32 (x := a0) rfl) <|
  Eq.trans (mx_geti t46 d46_33 rfl fl5_26 h0) <|
  Eq.trans (mx_iald t46 d46_36 h3 h2) <|
  Eq.trans (mx_bipush t46 d46_37 (v := nI 48) rfl) <|
  (mx_clt t46 d46_39 (tgt := 87) (by decide))
theorem b46_42 {d : Nat} {S : mm_S} {a0 : Nat} {x1 : Int32} {x2 : Int32} (h0 : mm_obj S a0 5 = true) (h1 : (mm_R S a0 1).isSome = true) (h2 : mm_inb (mm_M S a0 2) (mm_N S (mm_rg S a0 1)) = true) (h3 : mm_arr S (mm_rg S a0 1) 13 = true) : mm_ex d 46 42 [.ref a0, .int x1, .int x2] [] S =
    if (nI 57) < (mm_M S (mm_rg S a0 1) (mm_M S a0 2).toNatClampNeg) then mm_ex d 46 87 [.ref a0, .int x1, .int x2] [] S else mm_ex d 46 56 [.ref a0, .int x1, .int x2] [] S :=
  Eq.trans (mx_aload_n t46 d46_42 (x := a0) rfl) <|
  Eq.trans (mx_getR t46 d46_43 rfl fl5_9 h0 h1) <|
  Eq.trans (mx_aload_n t46 d46_46 (x := a0) rfl) <|
  Eq.trans (mx_geti t46 d46_47 rfl fl5_26 h0) <|
  Eq.trans (mx_iald t46 d46_50 h3 h2) <|
  Eq.trans (mx_bipush t46 d46_51 (v := nI 57) rfl) <|
  (mx_cgt t46 d46_53 (tgt := 87) (by decide))
theorem b46_56 {d : Nat} {S : mm_S} {a0 : Nat} {x1 : Int32} {x2 : Int32} (h0 : mm_obj S a0 5 = true) (h1 : (mm_R S a0 1).isSome = true) (h2 : mm_inb (mm_M S a0 2) (mm_N S (mm_rg S a0 1)) = true) (h3 : mm_arr S (mm_rg S a0 1) 13 = true) : mm_ex d 46 56 [.ref a0, .int x1, .int x2] [] S =
    mm_ex d 46 7 [.ref a0, .int x1, .int ((((nI 10) * x2) + (mm_M S (mm_rg S a0 1) (mm_M S a0 2).toNatClampNeg)) - (nI 48))] [] (mm_uM S a0 2 ((mm_M S a0 2) + (nI 1))) :=
  Eq.trans (mx_bipush t46 d46_56 (v := nI 10) rfl) <|
  Eq.trans (mx_iload_n t46 d46_58 (x := x2) rfl) <|
  Eq.trans (mx_imul t46 d46_59) <|
  Eq.trans (mx_aload_n t46 d46_60 (x := a0) rfl) <|
  Eq.trans (mx_getR t46 d46_61 rfl fl5_9 h0 h1) <|
  Eq.trans (mx_aload_n t46 d46_64 (x := a0) rfl) <|
  Eq.trans (mx_geti t46 d46_65 rfl fl5_26 h0) <|
  Eq.trans (mx_iald t46 d46_68 h3 h2) <|
  Eq.trans (mx_iadd t46 d46_69) <|
  Eq.trans (mx_bipush t46 d46_70 (v := nI 48) rfl) <|
  Eq.trans (mx_isub t46 d46_72) <|
  Eq.trans (mx_istore_n t46 d46_73 (ls' := [.ref a0, .int x1, .int ((((nI 10) * x2) + (mm_M S (mm_rg S a0 1) (mm_M S a0 2).toNatClampNeg)) - (nI 48))]) rfl rfl) <|
  Eq.trans (mx_aload_n t46 d46_74 (x := a0) rfl) <|
  Eq.trans (mx_dupr t46 d46_75) <|
  Eq.trans (mx_geti t46 d46_76 rfl fl5_26 h0) <|
  Eq.trans (mx_iconst t46 d46_79 (v := nI 1) rfl) <|
  Eq.trans (mx_iadd t46 d46_80) <|
  Eq.trans (mx_puti2 t46 d46_81 fl5_26 rfl h0) <|
  (mx_goto t46 d46_84 (tgt := 7) (by decide))
theorem b46_87 {d : Nat} {S : mm_S} {a0 : Nat} {x1 : Int32} {x2 : Int32} (h0 : mm_obj S a0 5 = true) : mm_ex d 46 87 [.ref a0, .int x1, .int x2] [] S =
    if (mm_M S a0 2) = x1 then mm_ex d 46 95 [.ref a0, .int x1, .int x2] [] S else mm_ex d 46 99 [.ref a0, .int x1, .int x2] [] S :=
  Eq.trans (mx_aload_n t46 d46_87 (x := a0) rfl) <|
  Eq.trans (mx_geti t46 d46_88 rfl fl5_26 h0) <|
  Eq.trans (mx_iload_n t46 d46_91 (x := x1) rfl) <|
  (mx_cne t46 d46_92 (tgt := 99) (by decide))
theorem b46_95 {d : Nat} {S : mm_S} {a0 : Nat} {x1 : Int32} {x2 : Int32} : mm_ex d 46 95 [.ref a0, .int x1, .int x2] [] S =
    some (some (.int (-1)), S) :=
  Eq.trans (mx_iconst t46 d46_95 (v := -1) rfl) <|
  Eq.trans (mx_goto t46 d46_96 (tgt := 100) (by decide)) <|
  (mx_iret t46 d46_100 (ty := .int) rfl rfl (fun h => nomatch h))
theorem b46_99 {d : Nat} {S : mm_S} {a0 : Nat} {x1 : Int32} {x2 : Int32} : mm_ex d 46 99 [.ref a0, .int x1, .int x2] [] S =
    some (some (.int x2), S) :=
  Eq.trans (mx_iload_n t46 d46_99 (x := x2) rfl) <|
  (mx_iret t46 d46_100 (ty := .int) rfl rfl (fun h => nomatch h))
theorem e46 {d : Nat} {S : mm_S} {a0 : Nat} : mm_cl d 46 [.ref a0] S = mm_ex d 46 0 [.ref a0, .null, .null] [] S := mm_cl_eq t46 (Nat.le_of_ble_eq_true rfl) rfl
/-! J0_length_8abf5 -/
theorem d212_0 : decode prog_17_method_54_code 0 = .ok (.aload_n 0, 1) := by decide +kernel
theorem d212_1 : decode prog_17_method_54_code 1 = .ok (.getfield 9, 3) := by decide +kernel
theorem d212_4 : decode prog_17_method_54_code 4 = .ok (.arraylength, 1) := by decide +kernel
theorem d212_5 : decode prog_17_method_54_code 5 = .ok (.aload_n 0, 1) := by decide +kernel
theorem d212_6 : decode prog_17_method_54_code 6 = .ok (.invokevirtual 335, 3) := by decide +kernel
theorem d212_9 : decode prog_17_method_54_code 9 = .ok (.ishr, 1) := by decide +kernel
theorem d212_10 : decode prog_17_method_54_code 10 = .ok (.ireturn, 1) := by decide +kernel
theorem b212_0 {d : Nat} {S : mm_S} {a0 : Nat} (h0 : mm_isS a0 = true) (h1 : (decide ((a0 + 1) < mm_n S) && decide (13 ≤ mm_K S (a0 + 1)) && decide (mm_K S (a0 + 1) < 19)) = false) (h2 : mm_isB (a0 + 1) = true) (h3 : mm_rk S a0 = 100) : mm_ex (d + 1) 212 0 [.ref a0] [] S =
    mm_bd (mm_cl d 217 [.ref a0] S) (fun v S2 => mm_ex (d + 1) 212 9 [.ref a0] (v.toList ++ [.int (nI (mm_by (a0 + 1)).length)]) S2) :=
  Eq.trans (mx_aload_n t212 d212_0 (x := a0) rfl) <|
  Eq.trans (mx_getS1 t212 d212_1 rfl h0) <|
  Eq.trans (mx_alenB t212 d212_4 h1 h2) <|
  Eq.trans (mx_aload_n t212 d212_5 (x := a0) rfl) <|
  (mx_virt (st := [.int (nI (mm_by (a0 + 1)).length)]) (k := 100) t212 [] d212_6 vt13_335 rfl rfl (Nat.le_of_ble_eq_true rfl) (Nat.le_of_ble_eq_true rfl) h3)
theorem b212_9 {d : Nat} {S : mm_S} {a0 : Nat} {p0 : Int32} {p1 : Int32} : mm_ex d 212 9 [.ref a0] [.int p0, .int p1] S =
    some (some (.int (p1 >>> (p0 &&& 31))), S) :=
  Eq.trans (mx_ishr t212 d212_9) <|
  (mx_iret t212 d212_10 (ty := .int) rfl rfl (fun h => nomatch h))
theorem e212 {d : Nat} {S : mm_S} {a0 : Nat} : mm_cl d 212 [.ref a0] S = mm_ex d 212 0 [.ref a0] [] S := mm_cl_eq t212 (Nat.le_of_ble_eq_true rfl) rfl
/-! J0_isEmpty_aae02 -/
theorem d213_0 : decode prog_17_method_55_code 0 = .ok (.aload_n 0, 1) := by decide +kernel
theorem d213_1 : decode prog_17_method_55_code 1 = .ok (.getfield 9, 3) := by decide +kernel
theorem d213_4 : decode prog_17_method_55_code 4 = .ok (.arraylength, 1) := by decide +kernel
theorem d213_5 : decode prog_17_method_55_code 5 = .ok (.ifCond .ne 7, 3) := by decide +kernel
theorem d213_8 : decode prog_17_method_55_code 8 = .ok (.iconst 1, 1) := by decide +kernel
theorem d213_9 : decode prog_17_method_55_code 9 = .ok (.goto 4, 3) := by decide +kernel
theorem d213_12 : decode prog_17_method_55_code 12 = .ok (.iconst 0, 1) := by decide +kernel
theorem d213_13 : decode prog_17_method_55_code 13 = .ok (.ireturn, 1) := by decide +kernel
theorem b213_0 {d : Nat} {S : mm_S} {a0 : Nat} (h0 : mm_isS a0 = true) (h1 : (decide ((a0 + 1) < mm_n S) && decide (13 ≤ mm_K S (a0 + 1)) && decide (mm_K S (a0 + 1) < 19)) = false) (h2 : mm_isB (a0 + 1) = true) : mm_ex d 213 0 [.ref a0] [] S =
    if (nI (mm_by (a0 + 1)).length) = nI 0 then mm_ex d 213 8 [.ref a0] [] S else mm_ex d 213 12 [.ref a0] [] S :=
  Eq.trans (mx_aload_n t213 d213_0 (x := a0) rfl) <|
  Eq.trans (mx_getS1 t213 d213_1 rfl h0) <|
  Eq.trans (mx_alenB t213 d213_4 h1 h2) <|
  (mx_ine t213 d213_5 (tgt := 12) (by decide))
theorem b213_8 {d : Nat} {S : mm_S} {a0 : Nat} : mm_ex d 213 8 [.ref a0] [] S =
    some (some (.int (nI 1)), S) :=
  Eq.trans (mx_iconst t213 d213_8 (v := nI 1) rfl) <|
  Eq.trans (mx_goto t213 d213_9 (tgt := 13) (by decide)) <|
  (mx_iret t213 d213_13 (ty := .boolean) rfl rfl (fun h => nomatch h))
theorem b213_12 {d : Nat} {S : mm_S} {a0 : Nat} : mm_ex d 213 12 [.ref a0] [] S =
    some (some (.int (nI 0)), S) :=
  Eq.trans (mx_iconst t213 d213_12 (v := nI 0) rfl) <|
  (mx_iret t213 d213_13 (ty := .boolean) rfl rfl (fun h => nomatch h))
theorem e213 {d : Nat} {S : mm_S} {a0 : Nat} : mm_cl d 213 [.ref a0] S = mm_ex d 213 0 [.ref a0] [] S := mm_cl_eq t213 (Nat.le_of_ble_eq_true rfl) rfl
/-! J0_charAt_5068e -/
theorem d214_0 : decode prog_17_method_56_code 0 = .ok (.aload_n 0, 1) := by decide +kernel
theorem d214_1 : decode prog_17_method_56_code 1 = .ok (.invokevirtual 492, 3) := by decide +kernel
theorem d214_4 : decode prog_17_method_56_code 4 = .ok (.ifCond .eq 12, 3) := by decide +kernel
theorem d214_7 : decode prog_17_method_56_code 7 = .ok (.aload_n 0, 1) := by decide +kernel
theorem d214_8 : decode prog_17_method_56_code 8 = .ok (.getfield 9, 3) := by decide +kernel
theorem d214_11 : decode prog_17_method_56_code 11 = .ok (.iload_n 1, 1) := by decide +kernel
theorem d214_12 : decode prog_17_method_56_code 12 = .ok (.invokestatic 495, 3) := by decide +kernel
theorem d214_15 : decode prog_17_method_56_code 15 = .ok (.ireturn, 1) := by decide +kernel
theorem b214_0 {d : Nat} {S : mm_S} {a0 : Nat} {x1 : Int32} (h0 : mm_rk S a0 = 100) : mm_ex (d + 1) 214 0 [.ref a0, .int x1] [] S =
    mm_bd (mm_cl d 218 [.ref a0] S) (fun v S2 => mm_ex (d + 1) 214 4 [.ref a0, .int x1] (v.toList ++ []) S2) :=
  Eq.trans (mx_aload_n t214 d214_0 (x := a0) rfl) <|
  (mx_virt (st := []) (k := 100) t214 [] d214_1 vt13_492 rfl rfl (Nat.le_of_ble_eq_true rfl) (Nat.le_of_ble_eq_true rfl) h0)
theorem b214_4 {d : Nat} {S : mm_S} {a0 : Nat} {x1 : Int32} {p0 : Int32} : mm_ex d 214 4 [.ref a0, .int x1] [.int p0] S =
    if p0 = nI 0 then mm_ex d 214 16 [.ref a0, .int x1] [] S else mm_ex d 214 7 [.ref a0, .int x1] [] S :=
  (mx_ieq t214 d214_4 (tgt := 16) (by decide))
theorem b214_7 {d : Nat} {S : mm_S} {a0 : Nat} {x1 : Int32} (h0 : mm_isS a0 = true) : mm_ex (d + 1) 214 7 [.ref a0, .int x1] [] S =
    mm_bd (mm_cl d 220 [.ref (a0 + 1), .int x1] S) (fun v S2 => mm_ex (d + 1) 214 15 [.ref a0, .int x1] (v.toList ++ []) S2) :=
  Eq.trans (mx_aload_n t214 d214_7 (x := a0) rfl) <|
  Eq.trans (mx_getS1 t214 d214_8 rfl h0) <|
  Eq.trans (mx_iload_n t214 d214_11 (x := x1) rfl) <|
  (mx_stat (st := []) t214 [.ref (a0 + 1), .int x1] d214_12 acn13_495 mxn13_495 st13_495 rfl (Nat.le_of_ble_eq_true rfl) (Nat.le_of_ble_eq_true rfl))
theorem b214_15 {d : Nat} {S : mm_S} {a0 : Nat} {x1 : Int32} {p0 : Int32} (h0 : narrow .char (.int p0) = .int p0) : mm_ex d 214 15 [.ref a0, .int x1] [.int p0] S =
    some (some (.int p0), S) :=
  (mx_iret t214 d214_15 (ty := .char) rfl h0 (fun h => nomatch h))
theorem e214 {d : Nat} {S : mm_S} {a0 : Nat} {x1 : Int32} : mm_cl d 214 [.ref a0, .int x1] S = mm_ex d 214 0 [.ref a0, .int x1] [] S := mm_cl_eq t214 (Nat.le_of_ble_eq_true rfl) rfl
/-! J0_indexOf_0f7a4 -/
theorem d215_0 : decode prog_17_method_79_code 0 = .ok (.aload_n 0, 1) := by decide +kernel
theorem d215_1 : decode prog_17_method_79_code 1 = .ok (.iload_n 1, 1) := by decide +kernel
theorem d215_2 : decode prog_17_method_79_code 2 = .ok (.iconst 0, 1) := by decide +kernel
theorem d215_3 : decode prog_17_method_79_code 3 = .ok (.invokevirtual 633, 3) := by decide +kernel
theorem d215_6 : decode prog_17_method_79_code 6 = .ok (.ireturn, 1) := by decide +kernel
theorem b215_0 {d : Nat} {S : mm_S} {a0 : Nat} {x1 : Int32} (h0 : mm_rk S a0 = 100) : mm_ex (d + 1) 215 0 [.ref a0, .int x1] [] S =
    mm_bd (mm_cl d 216 [.ref a0, .int x1, .int (nI 0)] S) (fun v S2 => mm_ex (d + 1) 215 6 [.ref a0, .int x1] (v.toList ++ []) S2) :=
  Eq.trans (mx_aload_n t215 d215_0 (x := a0) rfl) <|
  Eq.trans (mx_iload_n t215 d215_1 (x := x1) rfl) <|
  Eq.trans (mx_iconst t215 d215_2 (v := nI 0) rfl) <|
  (mx_virt (st := []) (k := 100) t215 [.int x1, .int (nI 0)] d215_3 vt13_633 rfl rfl (Nat.le_of_ble_eq_true rfl) (Nat.le_of_ble_eq_true rfl) h0)
theorem b215_6 {d : Nat} {S : mm_S} {a0 : Nat} {x1 : Int32} {p0 : Int32} : mm_ex d 215 6 [.ref a0, .int x1] [.int p0] S =
    some (some (.int p0), S) :=
  (mx_iret t215 d215_6 (ty := .int) rfl rfl (fun h => nomatch h))
theorem e215 {d : Nat} {S : mm_S} {a0 : Nat} {x1 : Int32} : mm_cl d 215 [.ref a0, .int x1] S = mm_ex d 215 0 [.ref a0, .int x1] [] S := mm_cl_eq t215 (Nat.le_of_ble_eq_true rfl) rfl
/-! J0_indexOf_7cf53 -/
theorem d216_0 : decode prog_17_method_80_code 0 = .ok (.aload_n 0, 1) := by decide +kernel
theorem d216_1 : decode prog_17_method_80_code 1 = .ok (.invokevirtual 492, 3) := by decide +kernel
theorem d216_4 : decode prog_17_method_80_code 4 = .ok (.ifCond .eq 19, 3) := by decide +kernel
theorem d216_7 : decode prog_17_method_80_code 7 = .ok (.aload_n 0, 1) := by decide +kernel
theorem d216_8 : decode prog_17_method_80_code 8 = .ok (.getfield 9, 3) := by decide +kernel
theorem d216_11 : decode prog_17_method_80_code 11 = .ok (.iload_n 1, 1) := by decide +kernel
theorem d216_12 : decode prog_17_method_80_code 12 = .ok (.iload_n 2, 1) := by decide +kernel
theorem d216_13 : decode prog_17_method_80_code 13 = .ok (.aload_n 0, 1) := by decide +kernel
theorem d216_14 : decode prog_17_method_80_code 14 = .ok (.invokevirtual 505, 3) := by decide +kernel
theorem d216_17 : decode prog_17_method_80_code 17 = .ok (.invokestatic 637, 3) := by decide +kernel
theorem d216_20 : decode prog_17_method_80_code 20 = .ok (.goto 16, 3) := by decide +kernel
theorem d216_23 : decode prog_17_method_80_code 23 = .ok (.aload_n 0, 1) := by decide +kernel
theorem d216_24 : decode prog_17_method_80_code 24 = .ok (.getfield 9, 3) := by decide +kernel
theorem d216_27 : decode prog_17_method_80_code 27 = .ok (.iload_n 1, 1) := by decide +kernel
theorem d216_28 : decode prog_17_method_80_code 28 = .ok (.iload_n 2, 1) := by decide +kernel
theorem d216_29 : decode prog_17_method_80_code 29 = .ok (.aload_n 0, 1) := by decide +kernel
theorem d216_30 : decode prog_17_method_80_code 30 = .ok (.invokevirtual 505, 3) := by decide +kernel
theorem d216_36 : decode prog_17_method_80_code 36 = .ok (.ireturn, 1) := by decide +kernel
theorem b216_0 {d : Nat} {S : mm_S} {a0 : Nat} {x1 : Int32} {x2 : Int32} (h0 : mm_rk S a0 = 100) : mm_ex (d + 1) 216 0 [.ref a0, .int x1, .int x2] [] S =
    mm_bd (mm_cl d 218 [.ref a0] S) (fun v S2 => mm_ex (d + 1) 216 4 [.ref a0, .int x1, .int x2] (v.toList ++ []) S2) :=
  Eq.trans (mx_aload_n t216 d216_0 (x := a0) rfl) <|
  (mx_virt (st := []) (k := 100) t216 [] d216_1 vt13_492 rfl rfl (Nat.le_of_ble_eq_true rfl) (Nat.le_of_ble_eq_true rfl) h0)
theorem b216_4 {d : Nat} {S : mm_S} {a0 : Nat} {x1 : Int32} {x2 : Int32} {p0 : Int32} : mm_ex d 216 4 [.ref a0, .int x1, .int x2] [.int p0] S =
    if p0 = nI 0 then mm_ex d 216 23 [.ref a0, .int x1, .int x2] [] S else mm_ex d 216 7 [.ref a0, .int x1, .int x2] [] S :=
  (mx_ieq t216 d216_4 (tgt := 23) (by decide))
theorem b216_7 {d : Nat} {S : mm_S} {a0 : Nat} {x1 : Int32} {x2 : Int32} (h0 : mm_isS a0 = true) (h1 : mm_rk S a0 = 100) : mm_ex (d + 1) 216 7 [.ref a0, .int x1, .int x2] [] S =
    mm_bd (mm_cl d 212 [.ref a0] S) (fun v S2 => mm_ex (d + 1) 216 17 [.ref a0, .int x1, .int x2] (v.toList ++ [.int x2, .int x1, .ref (a0 + 1)]) S2) :=
  Eq.trans (mx_aload_n t216 d216_7 (x := a0) rfl) <|
  Eq.trans (mx_getS1 t216 d216_8 rfl h0) <|
  Eq.trans (mx_iload_n t216 d216_11 (x := x1) rfl) <|
  Eq.trans (mx_iload_n t216 d216_12 (x := x2) rfl) <|
  Eq.trans (mx_aload_n t216 d216_13 (x := a0) rfl) <|
  (mx_virt (st := [.int x2, .int x1, .ref (a0 + 1)]) (k := 100) t216 [] d216_14 vt13_505 rfl rfl (Nat.le_of_ble_eq_true rfl) (Nat.le_of_ble_eq_true rfl) h1)
theorem b216_17 {d : Nat} {S : mm_S} {a0 : Nat} {x1 : Int32} {x2 : Int32} {p0 : Int32} {p1 : Int32} {p2 : Int32} {p3 : Nat} : mm_ex (d + 1) 216 17 [.ref a0, .int x1, .int x2] [.int p0, .int p1, .int p2, .ref p3] S =
    mm_bd (mm_cl d 222 [.ref p3, .int p2, .int p1, .int p0] S) (fun v S2 => mm_ex (d + 1) 216 20 [.ref a0, .int x1, .int x2] (v.toList ++ []) S2) :=
  (mx_stat (st := []) t216 [.ref p3, .int p2, .int p1, .int p0] d216_17 acn13_637 mxn13_637 st13_637 rfl (Nat.le_of_ble_eq_true rfl) (Nat.le_of_ble_eq_true rfl))
theorem b216_20 {d : Nat} {S : mm_S} {a0 : Nat} {x1 : Int32} {x2 : Int32} {p0 : Int32} : mm_ex d 216 20 [.ref a0, .int x1, .int x2] [.int p0] S =
    some (some (.int p0), S) :=
  Eq.trans (mx_goto t216 d216_20 (tgt := 36) (by decide)) <|
  (mx_iret t216 d216_36 (ty := .int) rfl rfl (fun h => nomatch h))
theorem b216_23 {d : Nat} {S : mm_S} {a0 : Nat} {x1 : Int32} {x2 : Int32} (h0 : mm_isS a0 = true) (h1 : mm_rk S a0 = 100) : mm_ex (d + 1) 216 23 [.ref a0, .int x1, .int x2] [] S =
    mm_bd (mm_cl d 212 [.ref a0] S) (fun v S2 => mm_ex (d + 1) 216 33 [.ref a0, .int x1, .int x2] (v.toList ++ [.int x2, .int x1, .ref (a0 + 1)]) S2) :=
  Eq.trans (mx_aload_n t216 d216_23 (x := a0) rfl) <|
  Eq.trans (mx_getS1 t216 d216_24 rfl h0) <|
  Eq.trans (mx_iload_n t216 d216_27 (x := x1) rfl) <|
  Eq.trans (mx_iload_n t216 d216_28 (x := x2) rfl) <|
  Eq.trans (mx_aload_n t216 d216_29 (x := a0) rfl) <|
  (mx_virt (st := [.int x2, .int x1, .ref (a0 + 1)]) (k := 100) t216 [] d216_30 vt13_505 rfl rfl (Nat.le_of_ble_eq_true rfl) (Nat.le_of_ble_eq_true rfl) h1)
theorem e216 {d : Nat} {S : mm_S} {a0 : Nat} {x1 : Int32} {x2 : Int32} : mm_cl d 216 [.ref a0, .int x1, .int x2] S = mm_ex d 216 0 [.ref a0, .int x1, .int x2] [] S := mm_cl_eq t216 (Nat.le_of_ble_eq_true rfl) rfl
/-! J0_coder_7d493 -/
theorem d217_0 : decode prog_17_method_152_code 0 = .ok (.getstatic 38, 3) := by decide +kernel
theorem d217_3 : decode prog_17_method_152_code 3 = .ok (.ifCond .eq 10, 3) := by decide +kernel
theorem d217_6 : decode prog_17_method_152_code 6 = .ok (.aload_n 0, 1) := by decide +kernel
theorem d217_7 : decode prog_17_method_152_code 7 = .ok (.getfield 15, 3) := by decide +kernel
theorem d217_10 : decode prog_17_method_152_code 10 = .ok (.goto 4, 3) := by decide +kernel
theorem d217_13 : decode prog_17_method_152_code 13 = .ok (.iconst 1, 1) := by decide +kernel
theorem d217_14 : decode prog_17_method_152_code 14 = .ok (.ireturn, 1) := by decide +kernel
theorem b217_0 {d : Nat} {S : mm_S} {a0 : Nat} : mm_ex d 217 0 [.ref a0] [] S =
    if (nI 1) = nI 0 then mm_ex d 217 13 [.ref a0] [] S else mm_ex d 217 6 [.ref a0] [] S :=
  Eq.trans (mx_gets1 t217 d217_0 rfl) <|
  (mx_ieq t217 d217_3 (tgt := 13) (by decide))
theorem b217_6 {d : Nat} {S : mm_S} {a0 : Nat} (h0 : mm_isS a0 = true) : mm_ex d 217 6 [.ref a0] [] S =
    some (some (.int (nI 0)), S) :=
  Eq.trans (mx_aload_n t217 d217_6 (x := a0) rfl) <|
  Eq.trans (mx_getS2 t217 d217_7 rfl h0) <|
  Eq.trans (mx_goto t217 d217_10 (tgt := 14) (by decide)) <|
  (mx_iret t217 d217_14 (ty := .byte) rfl rfl (fun h => nomatch h))
theorem b217_13 {d : Nat} {S : mm_S} {a0 : Nat} : mm_ex d 217 13 [.ref a0] [] S =
    some (some (.int (nI 1)), S) :=
  Eq.trans (mx_iconst t217 d217_13 (v := nI 1) rfl) <|
  (mx_iret t217 d217_14 (ty := .byte) rfl rfl (fun h => nomatch h))
theorem e217 {d : Nat} {S : mm_S} {a0 : Nat} : mm_cl d 217 [.ref a0] S = mm_ex d 217 0 [.ref a0] [] S := mm_cl_eq t217 (Nat.le_of_ble_eq_true rfl) rfl
/-! J0_isLatin1_aae02 -/
theorem d218_0 : decode prog_17_method_154_code 0 = .ok (.getstatic 38, 3) := by decide +kernel
theorem d218_3 : decode prog_17_method_154_code 3 = .ok (.ifCond .eq 14, 3) := by decide +kernel
theorem d218_6 : decode prog_17_method_154_code 6 = .ok (.aload_n 0, 1) := by decide +kernel
theorem d218_7 : decode prog_17_method_154_code 7 = .ok (.getfield 15, 3) := by decide +kernel
theorem d218_10 : decode prog_17_method_154_code 10 = .ok (.ifCond .ne 7, 3) := by decide +kernel
theorem d218_13 : decode prog_17_method_154_code 13 = .ok (.iconst 1, 1) := by decide +kernel
theorem d218_14 : decode prog_17_method_154_code 14 = .ok (.goto 4, 3) := by decide +kernel
theorem d218_17 : decode prog_17_method_154_code 17 = .ok (.iconst 0, 1) := by decide +kernel
theorem d218_18 : decode prog_17_method_154_code 18 = .ok (.ireturn, 1) := by decide +kernel
theorem b218_0 {d : Nat} {S : mm_S} {a0 : Nat} : mm_ex d 218 0 [.ref a0] [] S =
    if (nI 1) = nI 0 then mm_ex d 218 17 [.ref a0] [] S else mm_ex d 218 6 [.ref a0] [] S :=
  Eq.trans (mx_gets1 t218 d218_0 rfl) <|
  (mx_ieq t218 d218_3 (tgt := 17) (by decide))
theorem b218_6 {d : Nat} {S : mm_S} {a0 : Nat} (h0 : mm_isS a0 = true) : mm_ex d 218 6 [.ref a0] [] S =
    if (nI 0) = nI 0 then mm_ex d 218 13 [.ref a0] [] S else mm_ex d 218 17 [.ref a0] [] S :=
  Eq.trans (mx_aload_n t218 d218_6 (x := a0) rfl) <|
  Eq.trans (mx_getS2 t218 d218_7 rfl h0) <|
  (mx_ine t218 d218_10 (tgt := 17) (by decide))
theorem b218_13 {d : Nat} {S : mm_S} {a0 : Nat} : mm_ex d 218 13 [.ref a0] [] S =
    some (some (.int (nI 1)), S) :=
  Eq.trans (mx_iconst t218 d218_13 (v := nI 1) rfl) <|
  Eq.trans (mx_goto t218 d218_14 (tgt := 18) (by decide)) <|
  (mx_iret t218 d218_18 (ty := .boolean) rfl rfl (fun h => nomatch h))
theorem b218_17 {d : Nat} {S : mm_S} {a0 : Nat} : mm_ex d 218 17 [.ref a0] [] S =
    some (some (.int (nI 0)), S) :=
  Eq.trans (mx_iconst t218 d218_17 (v := nI 0) rfl) <|
  (mx_iret t218 d218_18 (ty := .boolean) rfl rfl (fun h => nomatch h))
theorem e218 {d : Nat} {S : mm_S} {a0 : Nat} : mm_cl d 218 [.ref a0] S = mm_ex d 218 0 [.ref a0] [] S := mm_cl_eq t218 (Nat.le_of_ble_eq_true rfl) rfl
/-! J0_checkIndex_df160 -/
theorem d219_0 : decode prog_17_method_155_code 0 = .ok (.iload_n 0, 1) := by decide +kernel
theorem d219_1 : decode prog_17_method_155_code 1 = .ok (.iload_n 1, 1) := by decide +kernel
theorem d219_2 : decode prog_17_method_155_code 2 = .ok (.getstatic 1053, 3) := by decide +kernel
theorem d219_5 : decode prog_17_method_155_code 5 = .ok (.invokestatic 1059, 3) := by decide +kernel
theorem d219_8 : decode prog_17_method_155_code 8 = .ok (.pop, 1) := by decide +kernel
theorem d219_9 : decode prog_17_method_155_code 9 = .ok (.return_, 1) := by decide +kernel
theorem b219_0 {d : Nat} {S : mm_S} {x0 : Int32} {x1 : Int32} : mm_ex (d + 1) 219 0 [.int x0, .int x1] [] S =
    mm_bd (mm_cl d 224 [.int x0, .int x1, mm_FM] S) (fun v S2 => mm_ex (d + 1) 219 8 [.int x0, .int x1] (v.toList ++ []) S2) :=
  Eq.trans (mx_iload_n t219 d219_0 (x := x0) rfl) <|
  Eq.trans (mx_iload_n t219 d219_1 (x := x1) rfl) <|
  Eq.trans (mx_gets2 t219 d219_2 rfl) <|
  (mx_stat (st := []) t219 [.int x0, .int x1, mm_FM] d219_5 acn13_1059 mxn13_1059 st13_1059 rfl (Nat.le_of_ble_eq_true rfl) (Nat.le_of_ble_eq_true rfl))
theorem b219_8 {d : Nat} {S : mm_S} {x0 : Int32} {x1 : Int32} {p0 : Int32} : mm_ex d 219 8 [.int x0, .int x1] [.int p0] S =
    some (none, S) :=
  Eq.trans (mx_popi t219 d219_8) <|
  (mx_vret t219 d219_9 rfl)
theorem e219 {d : Nat} {S : mm_S} {x0 : Int32} {x1 : Int32} : mm_cl d 219 [.int x0, .int x1] S = mm_ex d 219 0 [.int x0, .int x1] [] S := mm_cl_eq t219 (Nat.le_of_ble_eq_true rfl) rfl
/-! J1_charAt_3b067 -/
theorem d220_0 : decode prog_18_method_2_code 0 = .ok (.iload_n 1, 1) := by decide +kernel
theorem d220_1 : decode prog_18_method_2_code 1 = .ok (.aload_n 0, 1) := by decide +kernel
theorem d220_2 : decode prog_18_method_2_code 2 = .ok (.arraylength, 1) := by decide +kernel
theorem d220_3 : decode prog_18_method_2_code 3 = .ok (.invokestatic 9, 3) := by decide +kernel
theorem d220_6 : decode prog_18_method_2_code 6 = .ok (.aload_n 0, 1) := by decide +kernel
theorem d220_7 : decode prog_18_method_2_code 7 = .ok (.iload_n 1, 1) := by decide +kernel
theorem d220_8 : decode prog_18_method_2_code 8 = .ok (.baload, 1) := by decide +kernel
theorem d220_9 : decode prog_18_method_2_code 9 = .ok (.sipush 255, 3) := by decide +kernel
theorem d220_12 : decode prog_18_method_2_code 12 = .ok (.iand, 1) := by decide +kernel
theorem d220_13 : decode prog_18_method_2_code 13 = .ok (.i2c, 1) := by decide +kernel
theorem d220_14 : decode prog_18_method_2_code 14 = .ok (.ireturn, 1) := by decide +kernel
theorem b220_0 {d : Nat} {S : mm_S} {a0 : Nat} {x1 : Int32} (h0 : (decide (a0 < mm_n S) && decide (13 ≤ mm_K S a0) && decide (mm_K S a0 < 19)) = false) (h1 : mm_isB a0 = true) : mm_ex (d + 1) 220 0 [.ref a0, .int x1] [] S =
    mm_bd (mm_cl d 219 [.int x1, .int (nI (mm_by a0).length)] S) (fun v S2 => mm_ex (d + 1) 220 6 [.ref a0, .int x1] (v.toList ++ []) S2) :=
  Eq.trans (mx_iload_n t220 d220_0 (x := x1) rfl) <|
  Eq.trans (mx_aload_n t220 d220_1 (x := a0) rfl) <|
  Eq.trans (mx_alenB t220 d220_2 h0 h1) <|
  (mx_stat (st := []) t220 [.int x1, .int (nI (mm_by a0).length)] d220_3 acn14_9 mxn14_9 st14_9 rfl (Nat.le_of_ble_eq_true rfl) (Nat.le_of_ble_eq_true rfl))
theorem b220_6 {d : Nat} {S : mm_S} {a0 : Nat} {x1 : Int32} (h0 : mm_arr S a0 15 = false) (h1 : mm_isB a0 = true) (h2 : mm_inb x1 (mm_by a0).length = true) (h3 : narrow .char (.int (((((mm_by a0).getD (x1).toNatClampNeg 0) &&& (nI 255)).toUInt32 % 65536).toInt32)) = .int (((((mm_by a0).getD (x1).toNatClampNeg 0) &&& (nI 255)).toUInt32 % 65536).toInt32)) : mm_ex d 220 6 [.ref a0, .int x1] [] S =
    some (some (.int (((((mm_by a0).getD (x1).toNatClampNeg 0) &&& (nI 255)).toUInt32 % 65536).toInt32)), S) :=
  Eq.trans (mx_aload_n t220 d220_6 (x := a0) rfl) <|
  Eq.trans (mx_iload_n t220 d220_7 (x := x1) rfl) <|
  Eq.trans (mx_bald t220 d220_8 h0 h1 h2) <|
  Eq.trans (mx_sipush t220 d220_9 (v := nI 255) rfl) <|
  Eq.trans (mx_iand t220 d220_12) <|
  Eq.trans (mx_i2c t220 d220_13) <|
  (mx_iret t220 d220_14 (ty := .char) rfl h3 (fun h => nomatch h))
theorem e220 {d : Nat} {S : mm_S} {a0 : Nat} {x1 : Int32} : mm_cl d 220 [.ref a0, .int x1] S = mm_ex d 220 0 [.ref a0, .int x1] [] S := mm_cl_eq t220 (Nat.le_of_ble_eq_true rfl) rfl
/-! J1_canEncode_9a6ad -/
theorem d221_0 : decode prog_18_method_4_code 0 = .ok (.iload_n 0, 1) := by decide +kernel
theorem d221_1 : decode prog_18_method_4_code 1 = .ok (.ifCond .lt 14, 3) := by decide +kernel
theorem d221_4 : decode prog_18_method_4_code 4 = .ok (.iload_n 0, 1) := by decide +kernel
theorem d221_5 : decode prog_18_method_4_code 5 = .ok (.sipush 255, 3) := by decide +kernel
theorem d221_8 : decode prog_18_method_4_code 8 = .ok (.if_icmp .gt 7, 3) := by decide +kernel
theorem d221_11 : decode prog_18_method_4_code 11 = .ok (.iconst 1, 1) := by decide +kernel
theorem d221_12 : decode prog_18_method_4_code 12 = .ok (.goto 4, 3) := by decide +kernel
theorem d221_15 : decode prog_18_method_4_code 15 = .ok (.iconst 0, 1) := by decide +kernel
theorem d221_16 : decode prog_18_method_4_code 16 = .ok (.ireturn, 1) := by decide +kernel
theorem b221_0 {d : Nat} {S : mm_S} {x0 : Int32} : mm_ex d 221 0 [.int x0] [] S =
    if x0 < nI 0 then mm_ex d 221 15 [.int x0] [] S else mm_ex d 221 4 [.int x0] [] S :=
  Eq.trans (mx_iload_n t221 d221_0 (x := x0) rfl) <|
  (mx_ilt t221 d221_1 (tgt := 15) (by decide))
theorem b221_4 {d : Nat} {S : mm_S} {x0 : Int32} : mm_ex d 221 4 [.int x0] [] S =
    if (nI 255) < x0 then mm_ex d 221 15 [.int x0] [] S else mm_ex d 221 11 [.int x0] [] S :=
  Eq.trans (mx_iload_n t221 d221_4 (x := x0) rfl) <|
  Eq.trans (mx_sipush t221 d221_5 (v := nI 255) rfl) <|
  (mx_cgt t221 d221_8 (tgt := 15) (by decide))
theorem b221_11 {d : Nat} {S : mm_S} {x0 : Int32} : mm_ex d 221 11 [.int x0] [] S =
    some (some (.int (nI 1)), S) :=
  Eq.trans (mx_iconst t221 d221_11 (v := nI 1) rfl) <|
  Eq.trans (mx_goto t221 d221_12 (tgt := 16) (by decide)) <|
  (mx_iret t221 d221_16 (ty := .boolean) rfl rfl (fun h => nomatch h))
theorem b221_15 {d : Nat} {S : mm_S} {x0 : Int32} : mm_ex d 221 15 [.int x0] [] S =
    some (some (.int (nI 0)), S) :=
  Eq.trans (mx_iconst t221 d221_15 (v := nI 0) rfl) <|
  (mx_iret t221 d221_16 (ty := .boolean) rfl rfl (fun h => nomatch h))
theorem e221 {d : Nat} {S : mm_S} {x0 : Int32} : mm_cl d 221 [.int x0] S = mm_ex d 221 0 [.int x0] [] S := mm_cl_eq t221 (Nat.le_of_ble_eq_true rfl) rfl
/-! J1_indexOf_4cfef -/
theorem dd222_0 : (decode prog_18_method_22_code 0 = .ok (.iload_n 1, 1)) ∧ (decode prog_18_method_22_code 1 = .ok (.invokestatic 88, 3)) ∧ (decode prog_18_method_22_code 4 = .ok (.ifCond .ne 5, 3)) ∧ (decode prog_18_method_22_code 7 = .ok (.iconst (-1), 1)) ∧ (decode prog_18_method_22_code 8 = .ok (.ireturn, 1)) ∧ (decode prog_18_method_22_code 9 = .ok (.iload_n 2, 1)) ∧ (decode prog_18_method_22_code 10 = .ok (.iconst 0, 1)) ∧ (decode prog_18_method_22_code 11 = .ok (.invokestatic 92, 3)) ∧ (decode prog_18_method_22_code 14 = .ok (.istore_n 2, 1)) ∧ (decode prog_18_method_22_code 15 = .ok (.iload_n 3, 1)) ∧ (decode prog_18_method_22_code 16 = .ok (.aload_n 0, 1)) ∧ (decode prog_18_method_22_code 17 = .ok (.arraylength, 1)) ∧ (decode prog_18_method_22_code 18 = .ok (.invokestatic 38, 3)) ∧ (decode prog_18_method_22_code 21 = .ok (.istore_n 3, 1)) ∧ (decode prog_18_method_22_code 22 = .ok (.iload_n 2, 1)) ∧ (decode prog_18_method_22_code 23 = .ok (.iload_n 3, 1)) := by decide +kernel
theorem d222_0 : decode prog_18_method_22_code 0 = .ok (.iload_n 1, 1) := dd222_0.1
theorem d222_1 : decode prog_18_method_22_code 1 = .ok (.invokestatic 88, 3) := dd222_0.2.1
theorem d222_4 : decode prog_18_method_22_code 4 = .ok (.ifCond .ne 5, 3) := dd222_0.2.2.1
theorem d222_7 : decode prog_18_method_22_code 7 = .ok (.iconst (-1), 1) := dd222_0.2.2.2.1
theorem d222_8 : decode prog_18_method_22_code 8 = .ok (.ireturn, 1) := dd222_0.2.2.2.2.1
theorem d222_9 : decode prog_18_method_22_code 9 = .ok (.iload_n 2, 1) := dd222_0.2.2.2.2.2.1
theorem d222_10 : decode prog_18_method_22_code 10 = .ok (.iconst 0, 1) := dd222_0.2.2.2.2.2.2.1
theorem d222_11 : decode prog_18_method_22_code 11 = .ok (.invokestatic 92, 3) := dd222_0.2.2.2.2.2.2.2.1
theorem d222_14 : decode prog_18_method_22_code 14 = .ok (.istore_n 2, 1) := dd222_0.2.2.2.2.2.2.2.2.1
theorem d222_15 : decode prog_18_method_22_code 15 = .ok (.iload_n 3, 1) := dd222_0.2.2.2.2.2.2.2.2.2.1
theorem d222_16 : decode prog_18_method_22_code 16 = .ok (.aload_n 0, 1) := dd222_0.2.2.2.2.2.2.2.2.2.2.1
theorem d222_17 : decode prog_18_method_22_code 17 = .ok (.arraylength, 1) := dd222_0.2.2.2.2.2.2.2.2.2.2.2.1
theorem d222_18 : decode prog_18_method_22_code 18 = .ok (.invokestatic 38, 3) := dd222_0.2.2.2.2.2.2.2.2.2.2.2.2.1
theorem d222_21 : decode prog_18_method_22_code 21 = .ok (.istore_n 3, 1) := dd222_0.2.2.2.2.2.2.2.2.2.2.2.2.2.1
theorem d222_22 : decode prog_18_method_22_code 22 = .ok (.iload_n 2, 1) := dd222_0.2.2.2.2.2.2.2.2.2.2.2.2.2.2.1
theorem d222_23 : decode prog_18_method_22_code 23 = .ok (.iload_n 3, 1) := dd222_0.2.2.2.2.2.2.2.2.2.2.2.2.2.2.2
theorem dd222_24 : (decode prog_18_method_22_code 24 = .ok (.if_icmp .lt 5, 3)) ∧ (decode prog_18_method_22_code 27 = .ok (.iconst (-1), 1)) ∧ (decode prog_18_method_22_code 28 = .ok (.ireturn, 1)) ∧ (decode prog_18_method_22_code 29 = .ok (.aload_n 0, 1)) ∧ (decode prog_18_method_22_code 30 = .ok (.iload_n 1, 1)) ∧ (decode prog_18_method_22_code 31 = .ok (.iload_n 2, 1)) ∧ (decode prog_18_method_22_code 32 = .ok (.iload_n 3, 1)) ∧ (decode prog_18_method_22_code 33 = .ok (.invokestatic 95, 3)) ∧ (decode prog_18_method_22_code 36 = .ok (.ireturn, 1)) := by decide +kernel
theorem d222_24 : decode prog_18_method_22_code 24 = .ok (.if_icmp .lt 5, 3) := dd222_24.1
theorem d222_27 : decode prog_18_method_22_code 27 = .ok (.iconst (-1), 1) := dd222_24.2.1
theorem d222_28 : decode prog_18_method_22_code 28 = .ok (.ireturn, 1) := dd222_24.2.2.1
theorem d222_29 : decode prog_18_method_22_code 29 = .ok (.aload_n 0, 1) := dd222_24.2.2.2.1
theorem d222_30 : decode prog_18_method_22_code 30 = .ok (.iload_n 1, 1) := dd222_24.2.2.2.2.1
theorem d222_31 : decode prog_18_method_22_code 31 = .ok (.iload_n 2, 1) := dd222_24.2.2.2.2.2.1
theorem d222_32 : decode prog_18_method_22_code 32 = .ok (.iload_n 3, 1) := dd222_24.2.2.2.2.2.2.1
theorem d222_33 : decode prog_18_method_22_code 33 = .ok (.invokestatic 95, 3) := dd222_24.2.2.2.2.2.2.2.1
theorem d222_36 : decode prog_18_method_22_code 36 = .ok (.ireturn, 1) := dd222_24.2.2.2.2.2.2.2.2
theorem b222_0 {d : Nat} {S : mm_S} {a0 : Nat} {x1 : Int32} {x2 : Int32} {x3 : Int32} : mm_ex (d + 1) 222 0 [.ref a0, .int x1, .int x2, .int x3] [] S =
    mm_bd (mm_cl d 221 [.int x1] S) (fun v S2 => mm_ex (d + 1) 222 4 [.ref a0, .int x1, .int x2, .int x3] (v.toList ++ []) S2) :=
  Eq.trans (mx_iload_n t222 d222_0 (x := x1) rfl) <|
  (mx_stat (st := []) t222 [.int x1] d222_1 acn14_88 mxn14_88 st14_88 rfl (Nat.le_of_ble_eq_true rfl) (Nat.le_of_ble_eq_true rfl))
theorem b222_4 {d : Nat} {S : mm_S} {a0 : Nat} {x1 : Int32} {x2 : Int32} {x3 : Int32} {p0 : Int32} : mm_ex d 222 4 [.ref a0, .int x1, .int x2, .int x3] [.int p0] S =
    if p0 = nI 0 then mm_ex d 222 7 [.ref a0, .int x1, .int x2, .int x3] [] S else mm_ex d 222 9 [.ref a0, .int x1, .int x2, .int x3] [] S :=
  (mx_ine t222 d222_4 (tgt := 9) (by decide))
theorem b222_7 {d : Nat} {S : mm_S} {a0 : Nat} {x1 : Int32} {x2 : Int32} {x3 : Int32} : mm_ex d 222 7 [.ref a0, .int x1, .int x2, .int x3] [] S =
    some (some (.int (-1)), S) :=
  Eq.trans (mx_iconst t222 d222_7 (v := -1) rfl) <|
  (mx_iret t222 d222_8 (ty := .int) rfl rfl (fun h => nomatch h))
theorem b222_9 {d : Nat} {S : mm_S} {a0 : Nat} {x1 : Int32} {x2 : Int32} {x3 : Int32} (h0 : (decide (a0 < mm_n S) && decide (13 ≤ mm_K S a0) && decide (mm_K S a0 < 19)) = false) (h1 : mm_isB a0 = true) : mm_ex (d + 1) 222 9 [.ref a0, .int x1, .int x2, .int x3] [] S =
    if (if x2 < (nI 0) then (nI 0) else x2) < (if (nI (mm_by a0).length) < x3 then (nI (mm_by a0).length) else x3) then mm_ex (d + 1) 222 29 [.ref a0, .int x1, .int (if x2 < (nI 0) then (nI 0) else x2), .int (if (nI (mm_by a0).length) < x3 then (nI (mm_by a0).length) else x3)] [] S else mm_ex (d + 1) 222 27 [.ref a0, .int x1, .int (if x2 < (nI 0) then (nI 0) else x2), .int (if (nI (mm_by a0).length) < x3 then (nI (mm_by a0).length) else x3)] [] S :=
  Eq.trans (mx_iload_n t222 d222_9 (x := x2) rfl) <|
  Eq.trans (mx_iconst t222 d222_10 (v := nI 0) rfl) <|
  Eq.trans (mx_math t222 d222_11 (k := 1) acn14_92 mxx14_92 (Nat.le_of_ble_eq_true rfl)) <|
  Eq.trans (mx_istore_n t222 d222_14 (ls' := [.ref a0, .int x1, .int (if x2 < (nI 0) then (nI 0) else x2), .int x3]) rfl rfl) <|
  Eq.trans (mx_iload_n t222 d222_15 (x := x3) rfl) <|
  Eq.trans (mx_aload_n t222 d222_16 (x := a0) rfl) <|
  Eq.trans (mx_alenB t222 d222_17 h0 h1) <|
  Eq.trans (mx_math t222 d222_18 (k := 0) acn14_38 mxx14_38 (Nat.le_of_ble_eq_true rfl)) <|
  Eq.trans (mx_istore_n t222 d222_21 (ls' := [.ref a0, .int x1, .int (if x2 < (nI 0) then (nI 0) else x2), .int (if (nI (mm_by a0).length) < x3 then (nI (mm_by a0).length) else x3)]) rfl rfl) <|
  Eq.trans (mx_iload_n t222 d222_22 (x := if x2 < (nI 0) then (nI 0) else x2) rfl) <|
  Eq.trans (mx_iload_n t222 d222_23 (x := if (nI (mm_by a0).length) < x3 then (nI (mm_by a0).length) else x3) rfl) <|
  (mx_clt t222 d222_24 (tgt := 29) (by decide))
theorem b222_27 {d : Nat} {S : mm_S} {a0 : Nat} {x1 : Int32} {x2 : Int32} {x3 : Int32} : mm_ex d 222 27 [.ref a0, .int x1, .int x2, .int x3] [] S =
    some (some (.int (-1)), S) :=
  Eq.trans (mx_iconst t222 d222_27 (v := -1) rfl) <|
  (mx_iret t222 d222_28 (ty := .int) rfl rfl (fun h => nomatch h))
theorem b222_29 {d : Nat} {S : mm_S} {a0 : Nat} {x1 : Int32} {x2 : Int32} {x3 : Int32} : mm_ex (d + 1) 222 29 [.ref a0, .int x1, .int x2, .int x3] [] S =
    mm_bd (mm_cl d 223 [.ref a0, .int x1, .int x2, .int x3] S) (fun v S2 => mm_ex (d + 1) 222 36 [.ref a0, .int x1, .int x2, .int x3] (v.toList ++ []) S2) :=
  Eq.trans (mx_aload_n t222 d222_29 (x := a0) rfl) <|
  Eq.trans (mx_iload_n t222 d222_30 (x := x1) rfl) <|
  Eq.trans (mx_iload_n t222 d222_31 (x := x2) rfl) <|
  Eq.trans (mx_iload_n t222 d222_32 (x := x3) rfl) <|
  (mx_stat (st := []) t222 [.ref a0, .int x1, .int x2, .int x3] d222_33 acn14_95 mxn14_95 st14_95 rfl (Nat.le_of_ble_eq_true rfl) (Nat.le_of_ble_eq_true rfl))
theorem b222_36 {d : Nat} {S : mm_S} {a0 : Nat} {x1 : Int32} {x2 : Int32} {x3 : Int32} {p0 : Int32} : mm_ex d 222 36 [.ref a0, .int x1, .int x2, .int x3] [.int p0] S =
    some (some (.int p0), S) :=
  (mx_iret t222 d222_36 (ty := .int) rfl rfl (fun h => nomatch h))
theorem e222 {d : Nat} {S : mm_S} {a0 : Nat} {x1 : Int32} {x2 : Int32} {x3 : Int32} : mm_cl d 222 [.ref a0, .int x1, .int x2, .int x3] S = mm_ex d 222 0 [.ref a0, .int x1, .int x2, .int x3] [] S := mm_cl_eq t222 (Nat.le_of_ble_eq_true rfl) rfl
/-! J1_indexOfChar_4cfef -/
theorem d223_0 : decode prog_18_method_23_code 0 = .ok (.iload_n 1, 1) := by decide +kernel
theorem d223_1 : decode prog_18_method_23_code 1 = .ok (.i2b, 1) := by decide +kernel
theorem d223_2 : decode prog_18_method_23_code 2 = .ok (.istore 4, 2) := by decide +kernel
theorem d223_4 : decode prog_18_method_23_code 4 = .ok (.iload_n 2, 1) := by decide +kernel
theorem d223_5 : decode prog_18_method_23_code 5 = .ok (.istore 5, 2) := by decide +kernel
theorem d223_7 : decode prog_18_method_23_code 7 = .ok (.iload 5, 2) := by decide +kernel
theorem d223_9 : decode prog_18_method_23_code 9 = .ok (.iload_n 3, 1) := by decide +kernel
theorem d223_10 : decode prog_18_method_23_code 10 = .ok (.if_icmp .ge 21, 3) := by decide +kernel
theorem d223_13 : decode prog_18_method_23_code 13 = .ok (.aload_n 0, 1) := by decide +kernel
theorem d223_14 : decode prog_18_method_23_code 14 = .ok (.iload 5, 2) := by decide +kernel
theorem d223_16 : decode prog_18_method_23_code 16 = .ok (.baload, 1) := by decide +kernel
theorem d223_17 : decode prog_18_method_23_code 17 = .ok (.iload 4, 2) := by decide +kernel
theorem d223_19 : decode prog_18_method_23_code 19 = .ok (.if_icmp .ne 6, 3) := by decide +kernel
theorem d223_22 : decode prog_18_method_23_code 22 = .ok (.iload 5, 2) := by decide +kernel
theorem d223_24 : decode prog_18_method_23_code 24 = .ok (.ireturn, 1) := by decide +kernel
theorem d223_25 : decode prog_18_method_23_code 25 = .ok (.iinc 5 1, 3) := by decide +kernel
theorem d223_28 : decode prog_18_method_23_code 28 = .ok (.goto (-21), 3) := by decide +kernel
theorem d223_31 : decode prog_18_method_23_code 31 = .ok (.iconst (-1), 1) := by decide +kernel
theorem d223_32 : decode prog_18_method_23_code 32 = .ok (.ireturn, 1) := by decide +kernel
theorem b223_0 {d : Nat} {S : mm_S} {a0 : Nat} {x1 : Int32} {x2 : Int32} {x3 : Int32} : mm_ex d 223 0 [.ref a0, .int x1, .int x2, .int x3, .null, .null] [] S =
    mm_ex d 223 7 [.ref a0, .int x1, .int x2, .int x3, .int x1.toInt8.toInt32, .int x2] [] S :=
  Eq.trans (mx_iload_n t223 d223_0 (x := x1) rfl) <|
  Eq.trans (mx_i2b t223 d223_1) <|
  Eq.trans (mx_istore t223 d223_2 (ls' := [.ref a0, .int x1, .int x2, .int x3, .int x1.toInt8.toInt32, .null]) rfl rfl) <|
  Eq.trans (mx_iload_n t223 d223_4 (x := x2) rfl) <|
  (mx_istore t223 d223_5 (ls' := [.ref a0, .int x1, .int x2, .int x3, .int x1.toInt8.toInt32, .int x2]) rfl rfl)
theorem b223_7 {d : Nat} {S : mm_S} {a0 : Nat} {x1 : Int32} {x2 : Int32} {x3 : Int32} {x4 : Int32} {x5 : Int32} : mm_ex d 223 7 [.ref a0, .int x1, .int x2, .int x3, .int x4, .int x5] [] S =
    if x3 ≤ x5 then mm_ex d 223 31 [.ref a0, .int x1, .int x2, .int x3, .int x4, .int x5] [] S else mm_ex d 223 13 [.ref a0, .int x1, .int x2, .int x3, .int x4, .int x5] [] S :=
  Eq.trans (mx_iload t223 d223_7 (x := x5) rfl) <|
  Eq.trans (mx_iload_n t223 d223_9 (x := x3) rfl) <|
  (mx_cge t223 d223_10 (tgt := 31) (by decide))
theorem b223_13 {d : Nat} {S : mm_S} {a0 : Nat} {x1 : Int32} {x2 : Int32} {x3 : Int32} {x4 : Int32} {x5 : Int32} (h0 : mm_arr S a0 15 = false) (h1 : mm_isB a0 = true) (h2 : mm_inb x5 (mm_by a0).length = true) : mm_ex d 223 13 [.ref a0, .int x1, .int x2, .int x3, .int x4, .int x5] [] S =
    if ((mm_by a0).getD (x5).toNatClampNeg 0) = x4 then mm_ex d 223 22 [.ref a0, .int x1, .int x2, .int x3, .int x4, .int x5] [] S else mm_ex d 223 25 [.ref a0, .int x1, .int x2, .int x3, .int x4, .int x5] [] S :=
  Eq.trans (mx_aload_n t223 d223_13 (x := a0) rfl) <|
  Eq.trans (mx_iload t223 d223_14 (x := x5) rfl) <|
  Eq.trans (mx_bald t223 d223_16 h0 h1 h2) <|
  Eq.trans (mx_iload t223 d223_17 (x := x4) rfl) <|
  (mx_cne t223 d223_19 (tgt := 25) (by decide))
theorem b223_22 {d : Nat} {S : mm_S} {a0 : Nat} {x1 : Int32} {x2 : Int32} {x3 : Int32} {x4 : Int32} {x5 : Int32} : mm_ex d 223 22 [.ref a0, .int x1, .int x2, .int x3, .int x4, .int x5] [] S =
    some (some (.int x5), S) :=
  Eq.trans (mx_iload t223 d223_22 (x := x5) rfl) <|
  (mx_iret t223 d223_24 (ty := .int) rfl rfl (fun h => nomatch h))
theorem b223_25 {d : Nat} {S : mm_S} {a0 : Nat} {x1 : Int32} {x2 : Int32} {x3 : Int32} {x4 : Int32} {x5 : Int32} : mm_ex d 223 25 [.ref a0, .int x1, .int x2, .int x3, .int x4, .int x5] [] S =
    mm_ex d 223 7 [.ref a0, .int x1, .int x2, .int x3, .int x4, .int (x5 + nI 1)] [] S :=
  Eq.trans (mx_iinc t223 d223_25 (x := x5) (v := nI 1) (ls' := [.ref a0, .int x1, .int x2, .int x3, .int x4, .int (x5 + nI 1)]) rfl rfl rfl rfl) <|
  (mx_goto t223 d223_28 (tgt := 7) (by decide))
theorem b223_31 {d : Nat} {S : mm_S} {a0 : Nat} {x1 : Int32} {x2 : Int32} {x3 : Int32} {x4 : Int32} {x5 : Int32} : mm_ex d 223 31 [.ref a0, .int x1, .int x2, .int x3, .int x4, .int x5] [] S =
    some (some (.int (-1)), S) :=
  Eq.trans (mx_iconst t223 d223_31 (v := -1) rfl) <|
  (mx_iret t223 d223_32 (ty := .int) rfl rfl (fun h => nomatch h))
theorem e223 {d : Nat} {S : mm_S} {a0 : Nat} {x1 : Int32} {x2 : Int32} {x3 : Int32} : mm_cl d 223 [.ref a0, .int x1, .int x2, .int x3] S = mm_ex d 223 0 [.ref a0, .int x1, .int x2, .int x3, .null, .null] [] S := mm_cl_eq t223 (Nat.le_of_ble_eq_true rfl) rfl
/-! J3_checkIndex_8e157 -/
theorem d224_0 : decode prog_21_method_11_code 0 = .ok (.iload_n 0, 1) := by decide +kernel
theorem d224_1 : decode prog_21_method_11_code 1 = .ok (.ifCond .lt 8, 3) := by decide +kernel
theorem d224_4 : decode prog_21_method_11_code 4 = .ok (.iload_n 0, 1) := by decide +kernel
theorem d224_5 : decode prog_21_method_11_code 5 = .ok (.iload_n 1, 1) := by decide +kernel
theorem d224_6 : decode prog_21_method_11_code 6 = .ok (.if_icmp .lt 10, 3) := by decide +kernel
theorem d224_16 : decode prog_21_method_11_code 16 = .ok (.iload_n 0, 1) := by decide +kernel
theorem d224_17 : decode prog_21_method_11_code 17 = .ok (.ireturn, 1) := by decide +kernel
theorem b224_0 {d : Nat} {S : mm_S} {x0 : Int32} {x1 : Int32} {a2 : Nat} : mm_ex d 224 0 [.int x0, .int x1, .ref a2] [] S =
    if x0 < nI 0 then mm_ex d 224 9 [.int x0, .int x1, .ref a2] [] S else mm_ex d 224 4 [.int x0, .int x1, .ref a2] [] S :=
  Eq.trans (mx_iload_n t224 d224_0 (x := x0) rfl) <|
  (mx_ilt t224 d224_1 (tgt := 9) (by decide))
theorem b224_4 {d : Nat} {S : mm_S} {x0 : Int32} {x1 : Int32} {a2 : Nat} : mm_ex d 224 4 [.int x0, .int x1, .ref a2] [] S =
    if x0 < x1 then mm_ex d 224 16 [.int x0, .int x1, .ref a2] [] S else mm_ex d 224 9 [.int x0, .int x1, .ref a2] [] S :=
  Eq.trans (mx_iload_n t224 d224_4 (x := x0) rfl) <|
  Eq.trans (mx_iload_n t224 d224_5 (x := x1) rfl) <|
  (mx_clt t224 d224_6 (tgt := 16) (by decide))
theorem b224_16 {d : Nat} {S : mm_S} {x0 : Int32} {x1 : Int32} {a2 : Nat} : mm_ex d 224 16 [.int x0, .int x1, .ref a2] [] S =
    some (some (.int x0), S) :=
  Eq.trans (mx_iload_n t224 d224_16 (x := x0) rfl) <|
  (mx_iret t224 d224_17 (ty := .int) rfl rfl (fun h => nomatch h))
theorem e224 {d : Nat} {S : mm_S} {x0 : Int32} {x1 : Int32} {a2 : Nat} : mm_cl d 224 [.int x0, .int x1, .ref a2] S = mm_ex d 224 0 [.int x0, .int x1, .ref a2] [] S := mm_cl_eq t224 (Nat.le_of_ble_eq_true rfl) rfl
