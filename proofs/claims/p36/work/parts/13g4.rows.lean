/-! X12_runs -/
theorem d198_0 : decode prog_14_method_73_code 0 = .ok (.aload_n 0, 1) := by decide +kernel
theorem d198_1 : decode prog_14_method_73_code 1 = .ok (.getfield 386, 3) := by decide +kernel
theorem d198_4 : decode prog_14_method_73_code 4 = .ok (.bipush 20, 2) := by decide +kernel
theorem d198_6 : decode prog_14_method_73_code 6 = .ok (.if_icmp .ge 13, 3) := by decide +kernel
theorem d198_9 : decode prog_14_method_73_code 9 = .ok (.aload_n 0, 1) := by decide +kernel
theorem d198_10 : decode prog_14_method_73_code 10 = .ok (.getfield 73, 3) := by decide +kernel
theorem d198_13 : decode prog_14_method_73_code 13 = .ok (.aload_n 0, 1) := by decide +kernel
theorem d198_14 : decode prog_14_method_73_code 14 = .ok (.getfield 386, 3) := by decide +kernel
theorem d198_17 : decode prog_14_method_73_code 17 = .ok (.iload_n 1, 1) := by decide +kernel
theorem d198_18 : decode prog_14_method_73_code 18 = .ok (.iastore, 1) := by decide +kernel
theorem d198_19 : decode prog_14_method_73_code 19 = .ok (.aload_n 0, 1) := by decide +kernel
theorem d198_20 : decode prog_14_method_73_code 20 = .ok (.dup, 1) := by decide +kernel
theorem d198_21 : decode prog_14_method_73_code 21 = .ok (.getfield 386, 3) := by decide +kernel
theorem d198_24 : decode prog_14_method_73_code 24 = .ok (.iconst 1, 1) := by decide +kernel
theorem d198_25 : decode prog_14_method_73_code 25 = .ok (.iadd, 1) := by decide +kernel
theorem d198_26 : decode prog_14_method_73_code 26 = .ok (.putfield 386, 3) := by decide +kernel
theorem d198_29 : decode prog_14_method_73_code 29 = .ok (.return_, 1) := by decide +kernel
theorem b198_0 {d : Nat} {S : mm_S} {a0 : Nat} {x1 : Int32} (h0 : mm_obj S a0 12 = true) : mm_ex d 198 0 [.ref a0, .int x1] [] S =
    if (nI 20) ≤ (mm_M S a0 28) then mm_ex d 198 19 [.ref a0, .int x1] [] S else mm_ex d 198 9 [.ref a0, .int x1] [] S :=
  Eq.trans (mx_aload_n t198 d198_0 (x := a0) rfl) <|
  Eq.trans (mx_geti t198 d198_1 rfl fl12_386 h0) <|
  Eq.trans (mx_bipush t198 d198_4 (v := nI 20) rfl) <|
  (mx_cge t198 d198_6 (tgt := 19) (by decide))
theorem b198_9 {d : Nat} {S : mm_S} {a0 : Nat} {x1 : Int32} (h0 : mm_obj S a0 12 = true) (h1 : (mm_R S a0 29).isSome = true) (h2 : mm_arr S (mm_rg S a0 29) 13 = true) (h3 : mm_inb (mm_M S a0 28) (mm_N S (mm_rg S a0 29)) = true) : mm_ex d 198 9 [.ref a0, .int x1] [] S =
    mm_ex d 198 21 [.ref a0, .int x1] [.ref a0, .ref a0] (mm_uM S (mm_rg S a0 29) (mm_M S a0 28).toNatClampNeg x1) :=
  Eq.trans (mx_aload_n t198 d198_9 (x := a0) rfl) <|
  Eq.trans (mx_getR t198 d198_10 rfl fl12_73 h0 h1) <|
  Eq.trans (mx_aload_n t198 d198_13 (x := a0) rfl) <|
  Eq.trans (mx_geti t198 d198_14 rfl fl12_386 h0) <|
  Eq.trans (mx_iload_n t198 d198_17 (x := x1) rfl) <|
  Eq.trans (mx_iast2 t198 d198_18 h2 h3) <|
  Eq.trans (mx_aload_n t198 d198_19 (x := a0) rfl) <|
  (mx_dupr t198 d198_20)
theorem b198_19 {d : Nat} {S : mm_S} {a0 : Nat} {x1 : Int32} (h0 : mm_obj S a0 12 = true) : mm_ex d 198 19 [.ref a0, .int x1] [] S =
    some (none, (mm_uM S a0 28 ((mm_M S a0 28) + (nI 1)))) :=
  Eq.trans (mx_aload_n t198 d198_19 (x := a0) rfl) <|
  Eq.trans (mx_dupr t198 d198_20) <|
  Eq.trans (mx_geti t198 d198_21 rfl fl12_386 h0) <|
  Eq.trans (mx_iconst t198 d198_24 (v := nI 1) rfl) <|
  Eq.trans (mx_iadd t198 d198_25) <|
  Eq.trans (mx_puti2 t198 d198_26 fl12_386 rfl h0) <|
  (mx_vret t198 d198_29 rfl)
theorem b198_21 {d : Nat} {S : mm_S} {a0 : Nat} {x1 : Int32} {p0 : Nat} {p1 : Nat} (h0 : mm_obj S p0 12 = true) (h1 : mm_obj S p1 12 = true) : mm_ex d 198 21 [.ref a0, .int x1] [.ref p0, .ref p1] S =
    some (none, (mm_uM S p1 28 ((mm_M S p0 28) + (nI 1)))) :=
  Eq.trans (mx_geti t198 d198_21 rfl fl12_386 h0) <|
  Eq.trans (mx_iconst t198 d198_24 (v := nI 1) rfl) <|
  Eq.trans (mx_iadd t198 d198_25) <|
  Eq.trans (mx_puti2 t198 d198_26 fl12_386 rfl h1) <|
  (mx_vret t198 d198_29 rfl)
theorem e198 {d : Nat} {S : mm_S} {a0 : Nat} {x1 : Int32} : mm_cl d 198 [.ref a0, .int x1] S = mm_ex d 198 0 [.ref a0, .int x1] [] S := mm_cl_eq t198 (Nat.le_of_ble_eq_true rfl) rfl
/-! X12_above -/
theorem d199_0 : decode prog_14_method_74_code 0 = .ok (.iload_n 0, 1) := by decide +kernel
theorem d199_1 : decode prog_14_method_74_code 1 = .ok (.ifCond .ne 7, 3) := by decide +kernel
theorem d199_4 : decode prog_14_method_74_code 4 = .ok (.iconst (-1), 1) := by decide +kernel
theorem d199_5 : decode prog_14_method_74_code 5 = .ok (.goto 15, 3) := by decide +kernel
theorem d199_8 : decode prog_14_method_74_code 8 = .ok (.iload_n 0, 1) := by decide +kernel
theorem d199_9 : decode prog_14_method_74_code 9 = .ok (.iconst 4, 1) := by decide +kernel
theorem d199_10 : decode prog_14_method_74_code 10 = .ok (.if_icmp .ge 7, 3) := by decide +kernel
theorem d199_13 : decode prog_14_method_74_code 13 = .ok (.iconst 0, 1) := by decide +kernel
theorem d199_14 : decode prog_14_method_74_code 14 = .ok (.goto 6, 3) := by decide +kernel
theorem d199_17 : decode prog_14_method_74_code 17 = .ok (.iload_n 0, 1) := by decide +kernel
theorem d199_18 : decode prog_14_method_74_code 18 = .ok (.iconst 3, 1) := by decide +kernel
theorem d199_19 : decode prog_14_method_74_code 19 = .ok (.isub, 1) := by decide +kernel
theorem d199_20 : decode prog_14_method_74_code 20 = .ok (.ireturn, 1) := by decide +kernel
theorem b199_0 {d : Nat} {S : mm_S} {x0 : Int32} : mm_ex d 199 0 [.int x0] [] S =
    if x0 = nI 0 then mm_ex d 199 4 [.int x0] [] S else mm_ex d 199 8 [.int x0] [] S :=
  Eq.trans (mx_iload_n t199 d199_0 (x := x0) rfl) <|
  (mx_ine t199 d199_1 (tgt := 8) (by decide))
theorem b199_4 {d : Nat} {S : mm_S} {x0 : Int32} : mm_ex d 199 4 [.int x0] [] S =
    some (some (.int (-1)), S) :=
  Eq.trans (mx_iconst t199 d199_4 (v := -1) rfl) <|
  Eq.trans (mx_goto t199 d199_5 (tgt := 20) (by decide)) <|
  (mx_iret t199 d199_20 (ty := .int) rfl rfl (fun h => nomatch h))
theorem b199_8 {d : Nat} {S : mm_S} {x0 : Int32} : mm_ex d 199 8 [.int x0] [] S =
    if (nI 4) ≤ x0 then mm_ex d 199 17 [.int x0] [] S else mm_ex d 199 13 [.int x0] [] S :=
  Eq.trans (mx_iload_n t199 d199_8 (x := x0) rfl) <|
  Eq.trans (mx_iconst t199 d199_9 (v := nI 4) rfl) <|
  (mx_cge t199 d199_10 (tgt := 17) (by decide))
theorem b199_13 {d : Nat} {S : mm_S} {x0 : Int32} : mm_ex d 199 13 [.int x0] [] S =
    some (some (.int (nI 0)), S) :=
  Eq.trans (mx_iconst t199 d199_13 (v := nI 0) rfl) <|
  Eq.trans (mx_goto t199 d199_14 (tgt := 20) (by decide)) <|
  (mx_iret t199 d199_20 (ty := .int) rfl rfl (fun h => nomatch h))
theorem b199_17 {d : Nat} {S : mm_S} {x0 : Int32} : mm_ex d 199 17 [.int x0] [] S =
    some (some (.int (x0 - (nI 3))), S) :=
  Eq.trans (mx_iload_n t199 d199_17 (x := x0) rfl) <|
  Eq.trans (mx_iconst t199 d199_18 (v := nI 3) rfl) <|
  Eq.trans (mx_isub t199 d199_19) <|
  (mx_iret t199 d199_20 (ty := .int) rfl rfl (fun h => nomatch h))
theorem e199 {d : Nat} {S : mm_S} {x0 : Int32} : mm_cl d 199 [.int x0] S = mm_ex d 199 0 [.int x0] [] S := mm_cl_eq t199 (Nat.le_of_ble_eq_true rfl) rfl
/-! X12_bids -/
theorem dd200_0 : (decode prog_14_method_75_code 0 = .ok (.iload_n 1, 1)) ∧ (decode prog_14_method_75_code 1 = .ok (.iconst 2, 1)) ∧ (decode prog_14_method_75_code 2 = .ok (.if_icmp .ne 21, 3)) ∧ (decode prog_14_method_75_code 5 = .ok (.aload_n 0, 1)) ∧ (decode prog_14_method_75_code 6 = .ok (.bipush 30, 2)) ∧ (decode prog_14_method_75_code 8 = .ok (.invokevirtual 389, 3)) ∧ (decode prog_14_method_75_code 11 = .ok (.aload_n 0, 1)) ∧ (decode prog_14_method_75_code 12 = .ok (.iload_n 1, 1)) ∧ (decode prog_14_method_75_code 13 = .ok (.invokestatic 392, 3)) ∧ (decode prog_14_method_75_code 16 = .ok (.iload_n 2, 1)) ∧ (decode prog_14_method_75_code 17 = .ok (.iconst 3, 1)) ∧ (decode prog_14_method_75_code 18 = .ok (.imul, 1)) ∧ (decode prog_14_method_75_code 19 = .ok (.invokevirtual 395, 3)) ∧ (decode prog_14_method_75_code 22 = .ok (.ireturn, 1)) ∧ (decode prog_14_method_75_code 23 = .ok (.iload_n 1, 1)) ∧ (decode prog_14_method_75_code 24 = .ok (.iconst 4, 1)) := by decide +kernel
theorem d200_0 : decode prog_14_method_75_code 0 = .ok (.iload_n 1, 1) := dd200_0.1
theorem d200_1 : decode prog_14_method_75_code 1 = .ok (.iconst 2, 1) := dd200_0.2.1
theorem d200_2 : decode prog_14_method_75_code 2 = .ok (.if_icmp .ne 21, 3) := dd200_0.2.2.1
theorem d200_5 : decode prog_14_method_75_code 5 = .ok (.aload_n 0, 1) := dd200_0.2.2.2.1
theorem d200_6 : decode prog_14_method_75_code 6 = .ok (.bipush 30, 2) := dd200_0.2.2.2.2.1
theorem d200_8 : decode prog_14_method_75_code 8 = .ok (.invokevirtual 389, 3) := dd200_0.2.2.2.2.2.1
theorem d200_11 : decode prog_14_method_75_code 11 = .ok (.aload_n 0, 1) := dd200_0.2.2.2.2.2.2.1
theorem d200_12 : decode prog_14_method_75_code 12 = .ok (.iload_n 1, 1) := dd200_0.2.2.2.2.2.2.2.1
theorem d200_13 : decode prog_14_method_75_code 13 = .ok (.invokestatic 392, 3) := dd200_0.2.2.2.2.2.2.2.2.1
theorem d200_16 : decode prog_14_method_75_code 16 = .ok (.iload_n 2, 1) := dd200_0.2.2.2.2.2.2.2.2.2.1
theorem d200_17 : decode prog_14_method_75_code 17 = .ok (.iconst 3, 1) := dd200_0.2.2.2.2.2.2.2.2.2.2.1
theorem d200_18 : decode prog_14_method_75_code 18 = .ok (.imul, 1) := dd200_0.2.2.2.2.2.2.2.2.2.2.2.1
theorem d200_19 : decode prog_14_method_75_code 19 = .ok (.invokevirtual 395, 3) := dd200_0.2.2.2.2.2.2.2.2.2.2.2.2.1
theorem d200_22 : decode prog_14_method_75_code 22 = .ok (.ireturn, 1) := dd200_0.2.2.2.2.2.2.2.2.2.2.2.2.2.1
theorem d200_23 : decode prog_14_method_75_code 23 = .ok (.iload_n 1, 1) := dd200_0.2.2.2.2.2.2.2.2.2.2.2.2.2.2.1
theorem d200_24 : decode prog_14_method_75_code 24 = .ok (.iconst 4, 1) := dd200_0.2.2.2.2.2.2.2.2.2.2.2.2.2.2.2
theorem dd200_25 : (decode prog_14_method_75_code 25 = .ok (.if_icmp .ne 20, 3)) ∧ (decode prog_14_method_75_code 28 = .ok (.aload_n 0, 1)) ∧ (decode prog_14_method_75_code 29 = .ok (.bipush 50, 2)) ∧ (decode prog_14_method_75_code 31 = .ok (.invokevirtual 389, 3)) ∧ (decode prog_14_method_75_code 34 = .ok (.aload_n 0, 1)) ∧ (decode prog_14_method_75_code 35 = .ok (.iload_n 1, 1)) ∧ (decode prog_14_method_75_code 36 = .ok (.invokestatic 392, 3)) ∧ (decode prog_14_method_75_code 39 = .ok (.iload_n 2, 1)) ∧ (decode prog_14_method_75_code 40 = .ok (.invokevirtual 395, 3)) ∧ (decode prog_14_method_75_code 43 = .ok (.ineg, 1)) ∧ (decode prog_14_method_75_code 44 = .ok (.ireturn, 1)) ∧ (decode prog_14_method_75_code 45 = .ok (.iload_n 1, 1)) ∧ (decode prog_14_method_75_code 46 = .ok (.bipush 6, 2)) ∧ (decode prog_14_method_75_code 48 = .ok (.if_icmp .ne 29, 3)) ∧ (decode prog_14_method_75_code 51 = .ok (.aload_n 0, 1)) ∧ (decode prog_14_method_75_code 52 = .ok (.bipush 71, 2)) := by decide +kernel
theorem d200_25 : decode prog_14_method_75_code 25 = .ok (.if_icmp .ne 20, 3) := dd200_25.1
theorem d200_28 : decode prog_14_method_75_code 28 = .ok (.aload_n 0, 1) := dd200_25.2.1
theorem d200_29 : decode prog_14_method_75_code 29 = .ok (.bipush 50, 2) := dd200_25.2.2.1
theorem d200_31 : decode prog_14_method_75_code 31 = .ok (.invokevirtual 389, 3) := dd200_25.2.2.2.1
theorem d200_34 : decode prog_14_method_75_code 34 = .ok (.aload_n 0, 1) := dd200_25.2.2.2.2.1
theorem d200_35 : decode prog_14_method_75_code 35 = .ok (.iload_n 1, 1) := dd200_25.2.2.2.2.2.1
theorem d200_36 : decode prog_14_method_75_code 36 = .ok (.invokestatic 392, 3) := dd200_25.2.2.2.2.2.2.1
theorem d200_39 : decode prog_14_method_75_code 39 = .ok (.iload_n 2, 1) := dd200_25.2.2.2.2.2.2.2.1
theorem d200_40 : decode prog_14_method_75_code 40 = .ok (.invokevirtual 395, 3) := dd200_25.2.2.2.2.2.2.2.2.1
theorem d200_43 : decode prog_14_method_75_code 43 = .ok (.ineg, 1) := dd200_25.2.2.2.2.2.2.2.2.2.1
theorem d200_44 : decode prog_14_method_75_code 44 = .ok (.ireturn, 1) := dd200_25.2.2.2.2.2.2.2.2.2.2.1
theorem d200_45 : decode prog_14_method_75_code 45 = .ok (.iload_n 1, 1) := dd200_25.2.2.2.2.2.2.2.2.2.2.2.1
theorem d200_46 : decode prog_14_method_75_code 46 = .ok (.bipush 6, 2) := dd200_25.2.2.2.2.2.2.2.2.2.2.2.2.1
theorem d200_48 : decode prog_14_method_75_code 48 = .ok (.if_icmp .ne 29, 3) := dd200_25.2.2.2.2.2.2.2.2.2.2.2.2.2.1
theorem d200_51 : decode prog_14_method_75_code 51 = .ok (.aload_n 0, 1) := dd200_25.2.2.2.2.2.2.2.2.2.2.2.2.2.2.1
theorem d200_52 : decode prog_14_method_75_code 52 = .ok (.bipush 71, 2) := dd200_25.2.2.2.2.2.2.2.2.2.2.2.2.2.2.2
theorem dd200_54 : (decode prog_14_method_75_code 54 = .ok (.invokevirtual 389, 3)) ∧ (decode prog_14_method_75_code 57 = .ok (.aload_n 0, 1)) ∧ (decode prog_14_method_75_code 58 = .ok (.iload_n 1, 1)) ∧ (decode prog_14_method_75_code 59 = .ok (.invokestatic 392, 3)) ∧ (decode prog_14_method_75_code 62 = .ok (.iload_n 2, 1)) ∧ (decode prog_14_method_75_code 63 = .ok (.invokevirtual 395, 3)) ∧ (decode prog_14_method_75_code 66 = .ok (.aload_n 0, 1)) ∧ (decode prog_14_method_75_code 67 = .ok (.getfield 15, 3)) ∧ (decode prog_14_method_75_code 70 = .ok (.aload_n 0, 1)) ∧ (decode prog_14_method_75_code 71 = .ok (.getfield 398, 3)) ∧ (decode prog_14_method_75_code 74 = .ok (.iaload, 1)) ∧ (decode prog_14_method_75_code 75 = .ok (.ixor, 1)) ∧ (decode prog_14_method_75_code 76 = .ok (.ireturn, 1)) ∧ (decode prog_14_method_75_code 77 = .ok (.iload_n 1, 1)) ∧ (decode prog_14_method_75_code 78 = .ok (.ifCond .le 13, 3)) ∧ (decode prog_14_method_75_code 81 = .ok (.aload_n 0, 1)) := by decide +kernel
theorem d200_54 : decode prog_14_method_75_code 54 = .ok (.invokevirtual 389, 3) := dd200_54.1
theorem d200_57 : decode prog_14_method_75_code 57 = .ok (.aload_n 0, 1) := dd200_54.2.1
theorem d200_58 : decode prog_14_method_75_code 58 = .ok (.iload_n 1, 1) := dd200_54.2.2.1
theorem d200_59 : decode prog_14_method_75_code 59 = .ok (.invokestatic 392, 3) := dd200_54.2.2.2.1
theorem d200_62 : decode prog_14_method_75_code 62 = .ok (.iload_n 2, 1) := dd200_54.2.2.2.2.1
theorem d200_63 : decode prog_14_method_75_code 63 = .ok (.invokevirtual 395, 3) := dd200_54.2.2.2.2.2.1
theorem d200_66 : decode prog_14_method_75_code 66 = .ok (.aload_n 0, 1) := dd200_54.2.2.2.2.2.2.1
theorem d200_67 : decode prog_14_method_75_code 67 = .ok (.getfield 15, 3) := dd200_54.2.2.2.2.2.2.2.1
theorem d200_70 : decode prog_14_method_75_code 70 = .ok (.aload_n 0, 1) := dd200_54.2.2.2.2.2.2.2.2.1
theorem d200_71 : decode prog_14_method_75_code 71 = .ok (.getfield 398, 3) := dd200_54.2.2.2.2.2.2.2.2.2.1
theorem d200_74 : decode prog_14_method_75_code 74 = .ok (.iaload, 1) := dd200_54.2.2.2.2.2.2.2.2.2.2.1
theorem d200_75 : decode prog_14_method_75_code 75 = .ok (.ixor, 1) := dd200_54.2.2.2.2.2.2.2.2.2.2.2.1
theorem d200_76 : decode prog_14_method_75_code 76 = .ok (.ireturn, 1) := dd200_54.2.2.2.2.2.2.2.2.2.2.2.2.1
theorem d200_77 : decode prog_14_method_75_code 77 = .ok (.iload_n 1, 1) := dd200_54.2.2.2.2.2.2.2.2.2.2.2.2.2.1
theorem d200_78 : decode prog_14_method_75_code 78 = .ok (.ifCond .le 13, 3) := dd200_54.2.2.2.2.2.2.2.2.2.2.2.2.2.2.1
theorem d200_81 : decode prog_14_method_75_code 81 = .ok (.aload_n 0, 1) := dd200_54.2.2.2.2.2.2.2.2.2.2.2.2.2.2.2
theorem dd200_82 : (decode prog_14_method_75_code 82 = .ok (.iload_n 1, 1)) ∧ (decode prog_14_method_75_code 83 = .ok (.invokestatic 392, 3)) ∧ (decode prog_14_method_75_code 86 = .ok (.iload_n 2, 1)) ∧ (decode prog_14_method_75_code 87 = .ok (.invokevirtual 395, 3)) ∧ (decode prog_14_method_75_code 90 = .ok (.ireturn, 1)) ∧ (decode prog_14_method_75_code 91 = .ok (.aload_n 0, 1)) ∧ (decode prog_14_method_75_code 92 = .ok (.bipush 10, 2)) ∧ (decode prog_14_method_75_code 94 = .ok (.invokevirtual 389, 3)) ∧ (decode prog_14_method_75_code 97 = .ok (.iload_n 2, 1)) ∧ (decode prog_14_method_75_code 98 = .ok (.aload_n 0, 1)) ∧ (decode prog_14_method_75_code 99 = .ok (.getfield 398, 3)) ∧ (decode prog_14_method_75_code 102 = .ok (.iadd, 1)) ∧ (decode prog_14_method_75_code 103 = .ok (.ireturn, 1)) := by decide +kernel
theorem d200_82 : decode prog_14_method_75_code 82 = .ok (.iload_n 1, 1) := dd200_82.1
theorem d200_83 : decode prog_14_method_75_code 83 = .ok (.invokestatic 392, 3) := dd200_82.2.1
theorem d200_86 : decode prog_14_method_75_code 86 = .ok (.iload_n 2, 1) := dd200_82.2.2.1
theorem d200_87 : decode prog_14_method_75_code 87 = .ok (.invokevirtual 395, 3) := dd200_82.2.2.2.1
theorem d200_90 : decode prog_14_method_75_code 90 = .ok (.ireturn, 1) := dd200_82.2.2.2.2.1
theorem d200_91 : decode prog_14_method_75_code 91 = .ok (.aload_n 0, 1) := dd200_82.2.2.2.2.2.1
theorem d200_92 : decode prog_14_method_75_code 92 = .ok (.bipush 10, 2) := dd200_82.2.2.2.2.2.2.1
theorem d200_94 : decode prog_14_method_75_code 94 = .ok (.invokevirtual 389, 3) := dd200_82.2.2.2.2.2.2.2.1
theorem d200_97 : decode prog_14_method_75_code 97 = .ok (.iload_n 2, 1) := dd200_82.2.2.2.2.2.2.2.2.1
theorem d200_98 : decode prog_14_method_75_code 98 = .ok (.aload_n 0, 1) := dd200_82.2.2.2.2.2.2.2.2.2.1
theorem d200_99 : decode prog_14_method_75_code 99 = .ok (.getfield 398, 3) := dd200_82.2.2.2.2.2.2.2.2.2.2.1
theorem d200_102 : decode prog_14_method_75_code 102 = .ok (.iadd, 1) := dd200_82.2.2.2.2.2.2.2.2.2.2.2.1
theorem d200_103 : decode prog_14_method_75_code 103 = .ok (.ireturn, 1) := dd200_82.2.2.2.2.2.2.2.2.2.2.2.2
theorem b200_0 {d : Nat} {S : mm_S} {a0 : Nat} {x1 : Int32} {x2 : Int32} : mm_ex d 200 0 [.ref a0, .int x1, .int x2] [] S =
    if x1 = (nI 2) then mm_ex d 200 5 [.ref a0, .int x1, .int x2] [] S else mm_ex d 200 23 [.ref a0, .int x1, .int x2] [] S :=
  Eq.trans (mx_iload_n t200 d200_0 (x := x1) rfl) <|
  Eq.trans (mx_iconst t200 d200_1 (v := nI 2) rfl) <|
  (mx_cne t200 d200_2 (tgt := 23) (by decide))
theorem b200_5 {d : Nat} {S : mm_S} {a0 : Nat} {x1 : Int32} {x2 : Int32} (h0 : mm_rk S a0 = 12) : mm_ex (d + 1) 200 5 [.ref a0, .int x1, .int x2] [] S =
    mm_bd (mm_cl d 198 [.ref a0, .int (nI 30)] S) (fun v S2 => mm_ex (d + 1) 200 11 [.ref a0, .int x1, .int x2] (v.toList ++ []) S2) :=
  Eq.trans (mx_aload_n t200 d200_5 (x := a0) rfl) <|
  Eq.trans (mx_bipush t200 d200_6 (v := nI 30) rfl) <|
  (mx_virt (st := []) (k := 12) t200 [.int (nI 30)] d200_8 vt12_389 rfl rfl (Nat.le_of_ble_eq_true rfl) (Nat.le_of_ble_eq_true rfl) h0)
theorem b200_11 {d : Nat} {S : mm_S} {a0 : Nat} {x1 : Int32} {x2 : Int32} : mm_ex (d + 1) 200 11 [.ref a0, .int x1, .int x2] [] S =
    mm_bd (mm_cl d 199 [.int x1] S) (fun v S2 => mm_ex (d + 1) 200 16 [.ref a0, .int x1, .int x2] (v.toList ++ [.ref a0]) S2) :=
  Eq.trans (mx_aload_n t200 d200_11 (x := a0) rfl) <|
  Eq.trans (mx_iload_n t200 d200_12 (x := x1) rfl) <|
  (mx_stat (st := [.ref a0]) t200 [.int x1] d200_13 acn12_392 mxn12_392 st12_392 rfl (Nat.le_of_ble_eq_true rfl) (Nat.le_of_ble_eq_true rfl))
theorem b200_16 {d : Nat} {S : mm_S} {a0 : Nat} {x1 : Int32} {x2 : Int32} {p0 : Int32} {p1 : Nat} (h0 : mm_rk S p1 = 12) : mm_ex (d + 1) 200 16 [.ref a0, .int x1, .int x2] [.int p0, .ref p1] S =
    mm_bd (mm_cl d 200 [.ref p1, .int p0, .int (x2 * (nI 3))] S) (fun v S2 => mm_ex (d + 1) 200 22 [.ref a0, .int x1, .int x2] (v.toList ++ []) S2) :=
  Eq.trans (mx_iload_n t200 d200_16 (x := x2) rfl) <|
  Eq.trans (mx_iconst t200 d200_17 (v := nI 3) rfl) <|
  Eq.trans (mx_imul t200 d200_18) <|
  (mx_virt (st := []) (k := 12) t200 [.int p0, .int (x2 * (nI 3))] d200_19 vt12_395 rfl rfl (Nat.le_of_ble_eq_true rfl) (Nat.le_of_ble_eq_true rfl) h0)
theorem b200_22 {d : Nat} {S : mm_S} {a0 : Nat} {x1 : Int32} {x2 : Int32} {p0 : Int32} : mm_ex d 200 22 [.ref a0, .int x1, .int x2] [.int p0] S =
    some (some (.int p0), S) :=
  (mx_iret t200 d200_22 (ty := .int) rfl rfl (fun h => nomatch h))
theorem b200_23 {d : Nat} {S : mm_S} {a0 : Nat} {x1 : Int32} {x2 : Int32} : mm_ex d 200 23 [.ref a0, .int x1, .int x2] [] S =
    if x1 = (nI 4) then mm_ex d 200 28 [.ref a0, .int x1, .int x2] [] S else mm_ex d 200 45 [.ref a0, .int x1, .int x2] [] S :=
  Eq.trans (mx_iload_n t200 d200_23 (x := x1) rfl) <|
  Eq.trans (mx_iconst t200 d200_24 (v := nI 4) rfl) <|
  (mx_cne t200 d200_25 (tgt := 45) (by decide))
theorem b200_28 {d : Nat} {S : mm_S} {a0 : Nat} {x1 : Int32} {x2 : Int32} (h0 : mm_rk S a0 = 12) : mm_ex (d + 1) 200 28 [.ref a0, .int x1, .int x2] [] S =
    mm_bd (mm_cl d 198 [.ref a0, .int (nI 50)] S) (fun v S2 => mm_ex (d + 1) 200 34 [.ref a0, .int x1, .int x2] (v.toList ++ []) S2) :=
  Eq.trans (mx_aload_n t200 d200_28 (x := a0) rfl) <|
  Eq.trans (mx_bipush t200 d200_29 (v := nI 50) rfl) <|
  (mx_virt (st := []) (k := 12) t200 [.int (nI 50)] d200_31 vt12_389 rfl rfl (Nat.le_of_ble_eq_true rfl) (Nat.le_of_ble_eq_true rfl) h0)
theorem b200_34 {d : Nat} {S : mm_S} {a0 : Nat} {x1 : Int32} {x2 : Int32} : mm_ex (d + 1) 200 34 [.ref a0, .int x1, .int x2] [] S =
    mm_bd (mm_cl d 199 [.int x1] S) (fun v S2 => mm_ex (d + 1) 200 39 [.ref a0, .int x1, .int x2] (v.toList ++ [.ref a0]) S2) :=
  Eq.trans (mx_aload_n t200 d200_34 (x := a0) rfl) <|
  Eq.trans (mx_iload_n t200 d200_35 (x := x1) rfl) <|
  (mx_stat (st := [.ref a0]) t200 [.int x1] d200_36 acn12_392 mxn12_392 st12_392 rfl (Nat.le_of_ble_eq_true rfl) (Nat.le_of_ble_eq_true rfl))
theorem b200_39 {d : Nat} {S : mm_S} {a0 : Nat} {x1 : Int32} {x2 : Int32} {p0 : Int32} {p1 : Nat} (h0 : mm_rk S p1 = 12) : mm_ex (d + 1) 200 39 [.ref a0, .int x1, .int x2] [.int p0, .ref p1] S =
    mm_bd (mm_cl d 200 [.ref p1, .int p0, .int x2] S) (fun v S2 => mm_ex (d + 1) 200 43 [.ref a0, .int x1, .int x2] (v.toList ++ []) S2) :=
  Eq.trans (mx_iload_n t200 d200_39 (x := x2) rfl) <|
  (mx_virt (st := []) (k := 12) t200 [.int p0, .int x2] d200_40 vt12_395 rfl rfl (Nat.le_of_ble_eq_true rfl) (Nat.le_of_ble_eq_true rfl) h0)
theorem b200_43 {d : Nat} {S : mm_S} {a0 : Nat} {x1 : Int32} {x2 : Int32} {p0 : Int32} : mm_ex d 200 43 [.ref a0, .int x1, .int x2] [.int p0] S =
    some (some (.int (-p0)), S) :=
  Eq.trans (mx_ineg t200 d200_43) <|
  (mx_iret t200 d200_44 (ty := .int) rfl rfl (fun h => nomatch h))
theorem b200_45 {d : Nat} {S : mm_S} {a0 : Nat} {x1 : Int32} {x2 : Int32} : mm_ex d 200 45 [.ref a0, .int x1, .int x2] [] S =
    if x1 = (nI 6) then mm_ex d 200 51 [.ref a0, .int x1, .int x2] [] S else mm_ex d 200 77 [.ref a0, .int x1, .int x2] [] S :=
  Eq.trans (mx_iload_n t200 d200_45 (x := x1) rfl) <|
  Eq.trans (mx_bipush t200 d200_46 (v := nI 6) rfl) <|
  (mx_cne t200 d200_48 (tgt := 77) (by decide))
theorem b200_51 {d : Nat} {S : mm_S} {a0 : Nat} {x1 : Int32} {x2 : Int32} (h0 : mm_rk S a0 = 12) : mm_ex (d + 1) 200 51 [.ref a0, .int x1, .int x2] [] S =
    mm_bd (mm_cl d 198 [.ref a0, .int (nI 71)] S) (fun v S2 => mm_ex (d + 1) 200 57 [.ref a0, .int x1, .int x2] (v.toList ++ []) S2) :=
  Eq.trans (mx_aload_n t200 d200_51 (x := a0) rfl) <|
  Eq.trans (mx_bipush t200 d200_52 (v := nI 71) rfl) <|
  (mx_virt (st := []) (k := 12) t200 [.int (nI 71)] d200_54 vt12_389 rfl rfl (Nat.le_of_ble_eq_true rfl) (Nat.le_of_ble_eq_true rfl) h0)
theorem b200_57 {d : Nat} {S : mm_S} {a0 : Nat} {x1 : Int32} {x2 : Int32} : mm_ex (d + 1) 200 57 [.ref a0, .int x1, .int x2] [] S =
    mm_bd (mm_cl d 199 [.int x1] S) (fun v S2 => mm_ex (d + 1) 200 62 [.ref a0, .int x1, .int x2] (v.toList ++ [.ref a0]) S2) :=
  Eq.trans (mx_aload_n t200 d200_57 (x := a0) rfl) <|
  Eq.trans (mx_iload_n t200 d200_58 (x := x1) rfl) <|
  (mx_stat (st := [.ref a0]) t200 [.int x1] d200_59 acn12_392 mxn12_392 st12_392 rfl (Nat.le_of_ble_eq_true rfl) (Nat.le_of_ble_eq_true rfl))
theorem b200_62 {d : Nat} {S : mm_S} {a0 : Nat} {x1 : Int32} {x2 : Int32} {p0 : Int32} {p1 : Nat} (h0 : mm_rk S p1 = 12) : mm_ex (d + 1) 200 62 [.ref a0, .int x1, .int x2] [.int p0, .ref p1] S =
    mm_bd (mm_cl d 200 [.ref p1, .int p0, .int x2] S) (fun v S2 => mm_ex (d + 1) 200 66 [.ref a0, .int x1, .int x2] (v.toList ++ []) S2) :=
  Eq.trans (mx_iload_n t200 d200_62 (x := x2) rfl) <|
  (mx_virt (st := []) (k := 12) t200 [.int p0, .int x2] d200_63 vt12_395 rfl rfl (Nat.le_of_ble_eq_true rfl) (Nat.le_of_ble_eq_true rfl) h0)
theorem b200_66 {d : Nat} {S : mm_S} {a0 : Nat} {x1 : Int32} {x2 : Int32} {p0 : Int32} (h0 : mm_obj S a0 12 = true) (h1 : (mm_R S a0 2).isSome = true) (h2 : mm_inb (mm_M S a0 74) (mm_N S (mm_rg S a0 2)) = true) (h3 : mm_arr S (mm_rg S a0 2) 13 = true) : mm_ex d 200 66 [.ref a0, .int x1, .int x2] [.int p0] S =
    some (some (.int (p0 ^^^ (mm_M S (mm_rg S a0 2) (mm_M S a0 74).toNatClampNeg))), S) :=
  Eq.trans (mx_aload_n t200 d200_66 (x := a0) rfl) <|
  Eq.trans (mx_getR t200 d200_67 rfl fl12_15 h0 h1) <|
  Eq.trans (mx_aload_n t200 d200_70 (x := a0) rfl) <|
  Eq.trans (mx_geti t200 d200_71 rfl fl12_398 h0) <|
  Eq.trans (mx_iald t200 d200_74 h3 h2) <|
  Eq.trans (mx_ixor t200 d200_75) <|
  (mx_iret t200 d200_76 (ty := .int) rfl rfl (fun h => nomatch h))
theorem b200_77 {d : Nat} {S : mm_S} {a0 : Nat} {x1 : Int32} {x2 : Int32} : mm_ex d 200 77 [.ref a0, .int x1, .int x2] [] S =
    if x1 ≤ nI 0 then mm_ex d 200 91 [.ref a0, .int x1, .int x2] [] S else mm_ex d 200 81 [.ref a0, .int x1, .int x2] [] S :=
  Eq.trans (mx_iload_n t200 d200_77 (x := x1) rfl) <|
  (mx_ile t200 d200_78 (tgt := 91) (by decide))
theorem b200_81 {d : Nat} {S : mm_S} {a0 : Nat} {x1 : Int32} {x2 : Int32} : mm_ex (d + 1) 200 81 [.ref a0, .int x1, .int x2] [] S =
    mm_bd (mm_cl d 199 [.int x1] S) (fun v S2 => mm_ex (d + 1) 200 86 [.ref a0, .int x1, .int x2] (v.toList ++ [.ref a0]) S2) :=
  Eq.trans (mx_aload_n t200 d200_81 (x := a0) rfl) <|
  Eq.trans (mx_iload_n t200 d200_82 (x := x1) rfl) <|
  (mx_stat (st := [.ref a0]) t200 [.int x1] d200_83 acn12_392 mxn12_392 st12_392 rfl (Nat.le_of_ble_eq_true rfl) (Nat.le_of_ble_eq_true rfl))
theorem b200_86 {d : Nat} {S : mm_S} {a0 : Nat} {x1 : Int32} {x2 : Int32} {p0 : Int32} {p1 : Nat} (h0 : mm_rk S p1 = 12) : mm_ex (d + 1) 200 86 [.ref a0, .int x1, .int x2] [.int p0, .ref p1] S =
    mm_bd (mm_cl d 200 [.ref p1, .int p0, .int x2] S) (fun v S2 => mm_ex (d + 1) 200 90 [.ref a0, .int x1, .int x2] (v.toList ++ []) S2) :=
  Eq.trans (mx_iload_n t200 d200_86 (x := x2) rfl) <|
  (mx_virt (st := []) (k := 12) t200 [.int p0, .int x2] d200_87 vt12_395 rfl rfl (Nat.le_of_ble_eq_true rfl) (Nat.le_of_ble_eq_true rfl) h0)
theorem b200_90 {d : Nat} {S : mm_S} {a0 : Nat} {x1 : Int32} {x2 : Int32} {p0 : Int32} : mm_ex d 200 90 [.ref a0, .int x1, .int x2] [.int p0] S =
    some (some (.int p0), S) :=
  (mx_iret t200 d200_90 (ty := .int) rfl rfl (fun h => nomatch h))
theorem b200_91 {d : Nat} {S : mm_S} {a0 : Nat} {x1 : Int32} {x2 : Int32} (h0 : mm_rk S a0 = 12) : mm_ex (d + 1) 200 91 [.ref a0, .int x1, .int x2] [] S =
    mm_bd (mm_cl d 198 [.ref a0, .int (nI 10)] S) (fun v S2 => mm_ex (d + 1) 200 97 [.ref a0, .int x1, .int x2] (v.toList ++ []) S2) :=
  Eq.trans (mx_aload_n t200 d200_91 (x := a0) rfl) <|
  Eq.trans (mx_bipush t200 d200_92 (v := nI 10) rfl) <|
  (mx_virt (st := []) (k := 12) t200 [.int (nI 10)] d200_94 vt12_389 rfl rfl (Nat.le_of_ble_eq_true rfl) (Nat.le_of_ble_eq_true rfl) h0)
theorem b200_97 {d : Nat} {S : mm_S} {a0 : Nat} {x1 : Int32} {x2 : Int32} (h0 : mm_obj S a0 12 = true) : mm_ex d 200 97 [.ref a0, .int x1, .int x2] [] S =
    some (some (.int (x2 + (mm_M S a0 74))), S) :=
  Eq.trans (mx_iload_n t200 d200_97 (x := x2) rfl) <|
  Eq.trans (mx_aload_n t200 d200_98 (x := a0) rfl) <|
  Eq.trans (mx_geti t200 d200_99 rfl fl12_398 h0) <|
  Eq.trans (mx_iadd t200 d200_102) <|
  (mx_iret t200 d200_103 (ty := .int) rfl rfl (fun h => nomatch h))
theorem e200 {d : Nat} {S : mm_S} {a0 : Nat} {x1 : Int32} {x2 : Int32} : mm_cl d 200 [.ref a0, .int x1, .int x2] S = mm_ex d 200 0 [.ref a0, .int x1, .int x2] [] S := mm_cl_eq t200 (Nat.le_of_ble_eq_true rfl) rfl
/-! X12_waitsIn -/
theorem dd201_0 : (decode prog_14_method_76_code 0 = .ok (.iload_n 1, 1)) ∧ (decode prog_14_method_76_code 1 = .ok (.iconst 1, 1)) ∧ (decode prog_14_method_76_code 2 = .ok (.if_icmp .ne 22, 3)) ∧ (decode prog_14_method_76_code 5 = .ok (.aload_n 0, 1)) ∧ (decode prog_14_method_76_code 6 = .ok (.bipush 20, 2)) ∧ (decode prog_14_method_76_code 8 = .ok (.invokevirtual 389, 3)) ∧ (decode prog_14_method_76_code 11 = .ok (.aload_n 0, 1)) ∧ (decode prog_14_method_76_code 12 = .ok (.iload_n 1, 1)) ∧ (decode prog_14_method_76_code 13 = .ok (.invokestatic 392, 3)) ∧ (decode prog_14_method_76_code 16 = .ok (.iload_n 2, 1)) ∧ (decode prog_14_method_76_code 17 = .ok (.invokevirtual 401, 3)) ∧ (decode prog_14_method_76_code 20 = .ok (.bipush 6, 2)) ∧ (decode prog_14_method_76_code 22 = .ok (.ixor, 1)) ∧ (decode prog_14_method_76_code 23 = .ok (.ireturn, 1)) ∧ (decode prog_14_method_76_code 24 = .ok (.iload_n 1, 1)) ∧ (decode prog_14_method_76_code 25 = .ok (.iconst 4, 1)) := by decide +kernel
theorem d201_0 : decode prog_14_method_76_code 0 = .ok (.iload_n 1, 1) := dd201_0.1
theorem d201_1 : decode prog_14_method_76_code 1 = .ok (.iconst 1, 1) := dd201_0.2.1
theorem d201_2 : decode prog_14_method_76_code 2 = .ok (.if_icmp .ne 22, 3) := dd201_0.2.2.1
theorem d201_5 : decode prog_14_method_76_code 5 = .ok (.aload_n 0, 1) := dd201_0.2.2.2.1
theorem d201_6 : decode prog_14_method_76_code 6 = .ok (.bipush 20, 2) := dd201_0.2.2.2.2.1
theorem d201_8 : decode prog_14_method_76_code 8 = .ok (.invokevirtual 389, 3) := dd201_0.2.2.2.2.2.1
theorem d201_11 : decode prog_14_method_76_code 11 = .ok (.aload_n 0, 1) := dd201_0.2.2.2.2.2.2.1
theorem d201_12 : decode prog_14_method_76_code 12 = .ok (.iload_n 1, 1) := dd201_0.2.2.2.2.2.2.2.1
theorem d201_13 : decode prog_14_method_76_code 13 = .ok (.invokestatic 392, 3) := dd201_0.2.2.2.2.2.2.2.2.1
theorem d201_16 : decode prog_14_method_76_code 16 = .ok (.iload_n 2, 1) := dd201_0.2.2.2.2.2.2.2.2.2.1
theorem d201_17 : decode prog_14_method_76_code 17 = .ok (.invokevirtual 401, 3) := dd201_0.2.2.2.2.2.2.2.2.2.2.1
theorem d201_20 : decode prog_14_method_76_code 20 = .ok (.bipush 6, 2) := dd201_0.2.2.2.2.2.2.2.2.2.2.2.1
theorem d201_22 : decode prog_14_method_76_code 22 = .ok (.ixor, 1) := dd201_0.2.2.2.2.2.2.2.2.2.2.2.2.1
theorem d201_23 : decode prog_14_method_76_code 23 = .ok (.ireturn, 1) := dd201_0.2.2.2.2.2.2.2.2.2.2.2.2.2.1
theorem d201_24 : decode prog_14_method_76_code 24 = .ok (.iload_n 1, 1) := dd201_0.2.2.2.2.2.2.2.2.2.2.2.2.2.2.1
theorem d201_25 : decode prog_14_method_76_code 25 = .ok (.iconst 4, 1) := dd201_0.2.2.2.2.2.2.2.2.2.2.2.2.2.2.2
theorem dd201_26 : (decode prog_14_method_76_code 26 = .ok (.if_icmp .ne 21, 3)) ∧ (decode prog_14_method_76_code 29 = .ok (.aload_n 0, 1)) ∧ (decode prog_14_method_76_code 30 = .ok (.bipush 51, 2)) ∧ (decode prog_14_method_76_code 32 = .ok (.invokevirtual 389, 3)) ∧ (decode prog_14_method_76_code 35 = .ok (.aload_n 0, 1)) ∧ (decode prog_14_method_76_code 36 = .ok (.iload_n 1, 1)) ∧ (decode prog_14_method_76_code 37 = .ok (.invokestatic 392, 3)) ∧ (decode prog_14_method_76_code 40 = .ok (.iload_n 2, 1)) ∧ (decode prog_14_method_76_code 41 = .ok (.iconst 1, 1)) ∧ (decode prog_14_method_76_code 42 = .ok (.iadd, 1)) ∧ (decode prog_14_method_76_code 43 = .ok (.invokevirtual 401, 3)) ∧ (decode prog_14_method_76_code 46 = .ok (.ireturn, 1)) ∧ (decode prog_14_method_76_code 47 = .ok (.iload_n 1, 1)) ∧ (decode prog_14_method_76_code 48 = .ok (.bipush 6, 2)) ∧ (decode prog_14_method_76_code 50 = .ok (.if_icmp .ne 31, 3)) ∧ (decode prog_14_method_76_code 53 = .ok (.aload_n 0, 1)) := by decide +kernel
theorem d201_26 : decode prog_14_method_76_code 26 = .ok (.if_icmp .ne 21, 3) := dd201_26.1
theorem d201_29 : decode prog_14_method_76_code 29 = .ok (.aload_n 0, 1) := dd201_26.2.1
theorem d201_30 : decode prog_14_method_76_code 30 = .ok (.bipush 51, 2) := dd201_26.2.2.1
theorem d201_32 : decode prog_14_method_76_code 32 = .ok (.invokevirtual 389, 3) := dd201_26.2.2.2.1
theorem d201_35 : decode prog_14_method_76_code 35 = .ok (.aload_n 0, 1) := dd201_26.2.2.2.2.1
theorem d201_36 : decode prog_14_method_76_code 36 = .ok (.iload_n 1, 1) := dd201_26.2.2.2.2.2.1
theorem d201_37 : decode prog_14_method_76_code 37 = .ok (.invokestatic 392, 3) := dd201_26.2.2.2.2.2.2.1
theorem d201_40 : decode prog_14_method_76_code 40 = .ok (.iload_n 2, 1) := dd201_26.2.2.2.2.2.2.2.1
theorem d201_41 : decode prog_14_method_76_code 41 = .ok (.iconst 1, 1) := dd201_26.2.2.2.2.2.2.2.2.1
theorem d201_42 : decode prog_14_method_76_code 42 = .ok (.iadd, 1) := dd201_26.2.2.2.2.2.2.2.2.2.1
theorem d201_43 : decode prog_14_method_76_code 43 = .ok (.invokevirtual 401, 3) := dd201_26.2.2.2.2.2.2.2.2.2.2.1
theorem d201_46 : decode prog_14_method_76_code 46 = .ok (.ireturn, 1) := dd201_26.2.2.2.2.2.2.2.2.2.2.2.1
theorem d201_47 : decode prog_14_method_76_code 47 = .ok (.iload_n 1, 1) := dd201_26.2.2.2.2.2.2.2.2.2.2.2.2.1
theorem d201_48 : decode prog_14_method_76_code 48 = .ok (.bipush 6, 2) := dd201_26.2.2.2.2.2.2.2.2.2.2.2.2.2.1
theorem d201_50 : decode prog_14_method_76_code 50 = .ok (.if_icmp .ne 31, 3) := dd201_26.2.2.2.2.2.2.2.2.2.2.2.2.2.2.1
theorem d201_53 : decode prog_14_method_76_code 53 = .ok (.aload_n 0, 1) := dd201_26.2.2.2.2.2.2.2.2.2.2.2.2.2.2.2
theorem dd201_54 : (decode prog_14_method_76_code 54 = .ok (.bipush 70, 2)) ∧ (decode prog_14_method_76_code 56 = .ok (.invokevirtual 389, 3)) ∧ (decode prog_14_method_76_code 59 = .ok (.aload_n 0, 1)) ∧ (decode prog_14_method_76_code 60 = .ok (.iload_n 1, 1)) ∧ (decode prog_14_method_76_code 61 = .ok (.invokestatic 392, 3)) ∧ (decode prog_14_method_76_code 64 = .ok (.iload_n 2, 1)) ∧ (decode prog_14_method_76_code 65 = .ok (.invokevirtual 401, 3)) ∧ (decode prog_14_method_76_code 68 = .ok (.istore_n 3, 1)) ∧ (decode prog_14_method_76_code 69 = .ok (.iload_n 3, 1)) ∧ (decode prog_14_method_76_code 70 = .ok (.aload_n 0, 1)) ∧ (decode prog_14_method_76_code 71 = .ok (.iload_n 1, 1)) ∧ (decode prog_14_method_76_code 72 = .ok (.invokestatic 392, 3)) ∧ (decode prog_14_method_76_code 75 = .ok (.iconst 2, 1)) ∧ (decode prog_14_method_76_code 76 = .ok (.invokevirtual 395, 3)) ∧ (decode prog_14_method_76_code 79 = .ok (.iadd, 1)) ∧ (decode prog_14_method_76_code 80 = .ok (.ireturn, 1)) := by decide +kernel
theorem d201_54 : decode prog_14_method_76_code 54 = .ok (.bipush 70, 2) := dd201_54.1
theorem d201_56 : decode prog_14_method_76_code 56 = .ok (.invokevirtual 389, 3) := dd201_54.2.1
theorem d201_59 : decode prog_14_method_76_code 59 = .ok (.aload_n 0, 1) := dd201_54.2.2.1
theorem d201_60 : decode prog_14_method_76_code 60 = .ok (.iload_n 1, 1) := dd201_54.2.2.2.1
theorem d201_61 : decode prog_14_method_76_code 61 = .ok (.invokestatic 392, 3) := dd201_54.2.2.2.2.1
theorem d201_64 : decode prog_14_method_76_code 64 = .ok (.iload_n 2, 1) := dd201_54.2.2.2.2.2.1
theorem d201_65 : decode prog_14_method_76_code 65 = .ok (.invokevirtual 401, 3) := dd201_54.2.2.2.2.2.2.1
theorem d201_68 : decode prog_14_method_76_code 68 = .ok (.istore_n 3, 1) := dd201_54.2.2.2.2.2.2.2.1
theorem d201_69 : decode prog_14_method_76_code 69 = .ok (.iload_n 3, 1) := dd201_54.2.2.2.2.2.2.2.2.1
theorem d201_70 : decode prog_14_method_76_code 70 = .ok (.aload_n 0, 1) := dd201_54.2.2.2.2.2.2.2.2.2.1
theorem d201_71 : decode prog_14_method_76_code 71 = .ok (.iload_n 1, 1) := dd201_54.2.2.2.2.2.2.2.2.2.2.1
theorem d201_72 : decode prog_14_method_76_code 72 = .ok (.invokestatic 392, 3) := dd201_54.2.2.2.2.2.2.2.2.2.2.2.1
theorem d201_75 : decode prog_14_method_76_code 75 = .ok (.iconst 2, 1) := dd201_54.2.2.2.2.2.2.2.2.2.2.2.2.1
theorem d201_76 : decode prog_14_method_76_code 76 = .ok (.invokevirtual 395, 3) := dd201_54.2.2.2.2.2.2.2.2.2.2.2.2.2.1
theorem d201_79 : decode prog_14_method_76_code 79 = .ok (.iadd, 1) := dd201_54.2.2.2.2.2.2.2.2.2.2.2.2.2.2.1
theorem d201_80 : decode prog_14_method_76_code 80 = .ok (.ireturn, 1) := dd201_54.2.2.2.2.2.2.2.2.2.2.2.2.2.2.2
theorem dd201_81 : (decode prog_14_method_76_code 81 = .ok (.iload_n 1, 1)) ∧ (decode prog_14_method_76_code 82 = .ok (.ifCond .le 13, 3)) ∧ (decode prog_14_method_76_code 85 = .ok (.aload_n 0, 1)) ∧ (decode prog_14_method_76_code 86 = .ok (.iload_n 1, 1)) ∧ (decode prog_14_method_76_code 87 = .ok (.invokestatic 392, 3)) ∧ (decode prog_14_method_76_code 90 = .ok (.iload_n 2, 1)) ∧ (decode prog_14_method_76_code 91 = .ok (.invokevirtual 401, 3)) ∧ (decode prog_14_method_76_code 94 = .ok (.ireturn, 1)) ∧ (decode prog_14_method_76_code 95 = .ok (.aload_n 0, 1)) ∧ (decode prog_14_method_76_code 96 = .ok (.bipush 11, 2)) ∧ (decode prog_14_method_76_code 98 = .ok (.invokevirtual 389, 3)) ∧ (decode prog_14_method_76_code 101 = .ok (.aload_n 0, 1)) ∧ (decode prog_14_method_76_code 102 = .ok (.aload_n 0, 1)) ∧ (decode prog_14_method_76_code 103 = .ok (.getfield 9, 3)) ∧ (decode prog_14_method_76_code 106 = .ok (.aload_n 0, 1)) ∧ (decode prog_14_method_76_code 107 = .ok (.getfield 398, 3)) := by decide +kernel
theorem d201_81 : decode prog_14_method_76_code 81 = .ok (.iload_n 1, 1) := dd201_81.1
theorem d201_82 : decode prog_14_method_76_code 82 = .ok (.ifCond .le 13, 3) := dd201_81.2.1
theorem d201_85 : decode prog_14_method_76_code 85 = .ok (.aload_n 0, 1) := dd201_81.2.2.1
theorem d201_86 : decode prog_14_method_76_code 86 = .ok (.iload_n 1, 1) := dd201_81.2.2.2.1
theorem d201_87 : decode prog_14_method_76_code 87 = .ok (.invokestatic 392, 3) := dd201_81.2.2.2.2.1
theorem d201_90 : decode prog_14_method_76_code 90 = .ok (.iload_n 2, 1) := dd201_81.2.2.2.2.2.1
theorem d201_91 : decode prog_14_method_76_code 91 = .ok (.invokevirtual 401, 3) := dd201_81.2.2.2.2.2.2.1
theorem d201_94 : decode prog_14_method_76_code 94 = .ok (.ireturn, 1) := dd201_81.2.2.2.2.2.2.2.1
theorem d201_95 : decode prog_14_method_76_code 95 = .ok (.aload_n 0, 1) := dd201_81.2.2.2.2.2.2.2.2.1
theorem d201_96 : decode prog_14_method_76_code 96 = .ok (.bipush 11, 2) := dd201_81.2.2.2.2.2.2.2.2.2.1
theorem d201_98 : decode prog_14_method_76_code 98 = .ok (.invokevirtual 389, 3) := dd201_81.2.2.2.2.2.2.2.2.2.2.1
theorem d201_101 : decode prog_14_method_76_code 101 = .ok (.aload_n 0, 1) := dd201_81.2.2.2.2.2.2.2.2.2.2.2.1
theorem d201_102 : decode prog_14_method_76_code 102 = .ok (.aload_n 0, 1) := dd201_81.2.2.2.2.2.2.2.2.2.2.2.2.1
theorem d201_103 : decode prog_14_method_76_code 103 = .ok (.getfield 9, 3) := dd201_81.2.2.2.2.2.2.2.2.2.2.2.2.2.1
theorem d201_106 : decode prog_14_method_76_code 106 = .ok (.aload_n 0, 1) := dd201_81.2.2.2.2.2.2.2.2.2.2.2.2.2.2.1
theorem d201_107 : decode prog_14_method_76_code 107 = .ok (.getfield 398, 3) := dd201_81.2.2.2.2.2.2.2.2.2.2.2.2.2.2.2
theorem dd201_110 : (decode prog_14_method_76_code 110 = .ok (.iaload, 1)) ∧ (decode prog_14_method_76_code 111 = .ok (.iload_n 2, 1)) ∧ (decode prog_14_method_76_code 112 = .ok (.invokevirtual 395, 3)) ∧ (decode prog_14_method_76_code 115 = .ok (.aload_n 0, 1)) ∧ (decode prog_14_method_76_code 116 = .ok (.getfield 15, 3)) ∧ (decode prog_14_method_76_code 119 = .ok (.aload_n 0, 1)) ∧ (decode prog_14_method_76_code 120 = .ok (.getfield 398, 3)) ∧ (decode prog_14_method_76_code 123 = .ok (.iaload, 1)) ∧ (decode prog_14_method_76_code 124 = .ok (.isub, 1)) ∧ (decode prog_14_method_76_code 125 = .ok (.ireturn, 1)) := by decide +kernel
theorem d201_110 : decode prog_14_method_76_code 110 = .ok (.iaload, 1) := dd201_110.1
theorem d201_111 : decode prog_14_method_76_code 111 = .ok (.iload_n 2, 1) := dd201_110.2.1
theorem d201_112 : decode prog_14_method_76_code 112 = .ok (.invokevirtual 395, 3) := dd201_110.2.2.1
theorem d201_115 : decode prog_14_method_76_code 115 = .ok (.aload_n 0, 1) := dd201_110.2.2.2.1
theorem d201_116 : decode prog_14_method_76_code 116 = .ok (.getfield 15, 3) := dd201_110.2.2.2.2.1
theorem d201_119 : decode prog_14_method_76_code 119 = .ok (.aload_n 0, 1) := dd201_110.2.2.2.2.2.1
theorem d201_120 : decode prog_14_method_76_code 120 = .ok (.getfield 398, 3) := dd201_110.2.2.2.2.2.2.1
theorem d201_123 : decode prog_14_method_76_code 123 = .ok (.iaload, 1) := dd201_110.2.2.2.2.2.2.2.1
theorem d201_124 : decode prog_14_method_76_code 124 = .ok (.isub, 1) := dd201_110.2.2.2.2.2.2.2.2.1
theorem d201_125 : decode prog_14_method_76_code 125 = .ok (.ireturn, 1) := dd201_110.2.2.2.2.2.2.2.2.2
theorem b201_0 {d : Nat} {S : mm_S} {a0 : Nat} {x1 : Int32} {x2 : Int32} : mm_ex d 201 0 [.ref a0, .int x1, .int x2, .null] [] S =
    if x1 = (nI 1) then mm_ex d 201 5 [.ref a0, .int x1, .int x2, .null] [] S else mm_ex d 201 24 [.ref a0, .int x1, .int x2, .null] [] S :=
  Eq.trans (mx_iload_n t201 d201_0 (x := x1) rfl) <|
  Eq.trans (mx_iconst t201 d201_1 (v := nI 1) rfl) <|
  (mx_cne t201 d201_2 (tgt := 24) (by decide))
theorem b201_5 {d : Nat} {S : mm_S} {a0 : Nat} {x1 : Int32} {x2 : Int32} (h0 : mm_rk S a0 = 12) : mm_ex (d + 1) 201 5 [.ref a0, .int x1, .int x2, .null] [] S =
    mm_bd (mm_cl d 198 [.ref a0, .int (nI 20)] S) (fun v S2 => mm_ex (d + 1) 201 11 [.ref a0, .int x1, .int x2, .null] (v.toList ++ []) S2) :=
  Eq.trans (mx_aload_n t201 d201_5 (x := a0) rfl) <|
  Eq.trans (mx_bipush t201 d201_6 (v := nI 20) rfl) <|
  (mx_virt (st := []) (k := 12) t201 [.int (nI 20)] d201_8 vt12_389 rfl rfl (Nat.le_of_ble_eq_true rfl) (Nat.le_of_ble_eq_true rfl) h0)
theorem b201_11 {d : Nat} {S : mm_S} {a0 : Nat} {x1 : Int32} {x2 : Int32} : mm_ex (d + 1) 201 11 [.ref a0, .int x1, .int x2, .null] [] S =
    mm_bd (mm_cl d 199 [.int x1] S) (fun v S2 => mm_ex (d + 1) 201 16 [.ref a0, .int x1, .int x2, .null] (v.toList ++ [.ref a0]) S2) :=
  Eq.trans (mx_aload_n t201 d201_11 (x := a0) rfl) <|
  Eq.trans (mx_iload_n t201 d201_12 (x := x1) rfl) <|
  (mx_stat (st := [.ref a0]) t201 [.int x1] d201_13 acn12_392 mxn12_392 st12_392 rfl (Nat.le_of_ble_eq_true rfl) (Nat.le_of_ble_eq_true rfl))
theorem b201_16 {d : Nat} {S : mm_S} {a0 : Nat} {x1 : Int32} {x2 : Int32} {p0 : Int32} {p1 : Nat} (h0 : mm_rk S p1 = 12) : mm_ex (d + 1) 201 16 [.ref a0, .int x1, .int x2, .null] [.int p0, .ref p1] S =
    mm_bd (mm_cl d 201 [.ref p1, .int p0, .int x2] S) (fun v S2 => mm_ex (d + 1) 201 20 [.ref a0, .int x1, .int x2, .null] (v.toList ++ []) S2) :=
  Eq.trans (mx_iload_n t201 d201_16 (x := x2) rfl) <|
  (mx_virt (st := []) (k := 12) t201 [.int p0, .int x2] d201_17 vt12_401 rfl rfl (Nat.le_of_ble_eq_true rfl) (Nat.le_of_ble_eq_true rfl) h0)
theorem b201_20 {d : Nat} {S : mm_S} {a0 : Nat} {x1 : Int32} {x2 : Int32} {p0 : Int32} : mm_ex d 201 20 [.ref a0, .int x1, .int x2, .null] [.int p0] S =
    some (some (.int (p0 ^^^ (nI 6))), S) :=
  Eq.trans (mx_bipush t201 d201_20 (v := nI 6) rfl) <|
  Eq.trans (mx_ixor t201 d201_22) <|
  (mx_iret t201 d201_23 (ty := .int) rfl rfl (fun h => nomatch h))
theorem b201_24 {d : Nat} {S : mm_S} {a0 : Nat} {x1 : Int32} {x2 : Int32} : mm_ex d 201 24 [.ref a0, .int x1, .int x2, .null] [] S =
    if x1 = (nI 4) then mm_ex d 201 29 [.ref a0, .int x1, .int x2, .null] [] S else mm_ex d 201 47 [.ref a0, .int x1, .int x2, .null] [] S :=
  Eq.trans (mx_iload_n t201 d201_24 (x := x1) rfl) <|
  Eq.trans (mx_iconst t201 d201_25 (v := nI 4) rfl) <|
  (mx_cne t201 d201_26 (tgt := 47) (by decide))
theorem b201_29 {d : Nat} {S : mm_S} {a0 : Nat} {x1 : Int32} {x2 : Int32} (h0 : mm_rk S a0 = 12) : mm_ex (d + 1) 201 29 [.ref a0, .int x1, .int x2, .null] [] S =
    mm_bd (mm_cl d 198 [.ref a0, .int (nI 51)] S) (fun v S2 => mm_ex (d + 1) 201 35 [.ref a0, .int x1, .int x2, .null] (v.toList ++ []) S2) :=
  Eq.trans (mx_aload_n t201 d201_29 (x := a0) rfl) <|
  Eq.trans (mx_bipush t201 d201_30 (v := nI 51) rfl) <|
  (mx_virt (st := []) (k := 12) t201 [.int (nI 51)] d201_32 vt12_389 rfl rfl (Nat.le_of_ble_eq_true rfl) (Nat.le_of_ble_eq_true rfl) h0)
theorem b201_35 {d : Nat} {S : mm_S} {a0 : Nat} {x1 : Int32} {x2 : Int32} : mm_ex (d + 1) 201 35 [.ref a0, .int x1, .int x2, .null] [] S =
    mm_bd (mm_cl d 199 [.int x1] S) (fun v S2 => mm_ex (d + 1) 201 40 [.ref a0, .int x1, .int x2, .null] (v.toList ++ [.ref a0]) S2) :=
  Eq.trans (mx_aload_n t201 d201_35 (x := a0) rfl) <|
  Eq.trans (mx_iload_n t201 d201_36 (x := x1) rfl) <|
  (mx_stat (st := [.ref a0]) t201 [.int x1] d201_37 acn12_392 mxn12_392 st12_392 rfl (Nat.le_of_ble_eq_true rfl) (Nat.le_of_ble_eq_true rfl))
theorem b201_40 {d : Nat} {S : mm_S} {a0 : Nat} {x1 : Int32} {x2 : Int32} {p0 : Int32} {p1 : Nat} (h0 : mm_rk S p1 = 12) : mm_ex (d + 1) 201 40 [.ref a0, .int x1, .int x2, .null] [.int p0, .ref p1] S =
    mm_bd (mm_cl d 201 [.ref p1, .int p0, .int (x2 + (nI 1))] S) (fun v S2 => mm_ex (d + 1) 201 46 [.ref a0, .int x1, .int x2, .null] (v.toList ++ []) S2) :=
  Eq.trans (mx_iload_n t201 d201_40 (x := x2) rfl) <|
  Eq.trans (mx_iconst t201 d201_41 (v := nI 1) rfl) <|
  Eq.trans (mx_iadd t201 d201_42) <|
  (mx_virt (st := []) (k := 12) t201 [.int p0, .int (x2 + (nI 1))] d201_43 vt12_401 rfl rfl (Nat.le_of_ble_eq_true rfl) (Nat.le_of_ble_eq_true rfl) h0)
theorem b201_46 {d : Nat} {S : mm_S} {a0 : Nat} {x1 : Int32} {x2 : Int32} {p0 : Int32} : mm_ex d 201 46 [.ref a0, .int x1, .int x2, .null] [.int p0] S =
    some (some (.int p0), S) :=
  (mx_iret t201 d201_46 (ty := .int) rfl rfl (fun h => nomatch h))
theorem b201_47 {d : Nat} {S : mm_S} {a0 : Nat} {x1 : Int32} {x2 : Int32} : mm_ex d 201 47 [.ref a0, .int x1, .int x2, .null] [] S =
    if x1 = (nI 6) then mm_ex d 201 53 [.ref a0, .int x1, .int x2, .null] [] S else mm_ex d 201 81 [.ref a0, .int x1, .int x2, .null] [] S :=
  Eq.trans (mx_iload_n t201 d201_47 (x := x1) rfl) <|
  Eq.trans (mx_bipush t201 d201_48 (v := nI 6) rfl) <|
  (mx_cne t201 d201_50 (tgt := 81) (by decide))
theorem b201_53 {d : Nat} {S : mm_S} {a0 : Nat} {x1 : Int32} {x2 : Int32} (h0 : mm_rk S a0 = 12) : mm_ex (d + 1) 201 53 [.ref a0, .int x1, .int x2, .null] [] S =
    mm_bd (mm_cl d 198 [.ref a0, .int (nI 70)] S) (fun v S2 => mm_ex (d + 1) 201 59 [.ref a0, .int x1, .int x2, .null] (v.toList ++ []) S2) :=
  Eq.trans (mx_aload_n t201 d201_53 (x := a0) rfl) <|
  Eq.trans (mx_bipush t201 d201_54 (v := nI 70) rfl) <|
  (mx_virt (st := []) (k := 12) t201 [.int (nI 70)] d201_56 vt12_389 rfl rfl (Nat.le_of_ble_eq_true rfl) (Nat.le_of_ble_eq_true rfl) h0)
theorem b201_59 {d : Nat} {S : mm_S} {a0 : Nat} {x1 : Int32} {x2 : Int32} : mm_ex (d + 1) 201 59 [.ref a0, .int x1, .int x2, .null] [] S =
    mm_bd (mm_cl d 199 [.int x1] S) (fun v S2 => mm_ex (d + 1) 201 64 [.ref a0, .int x1, .int x2, .null] (v.toList ++ [.ref a0]) S2) :=
  Eq.trans (mx_aload_n t201 d201_59 (x := a0) rfl) <|
  Eq.trans (mx_iload_n t201 d201_60 (x := x1) rfl) <|
  (mx_stat (st := [.ref a0]) t201 [.int x1] d201_61 acn12_392 mxn12_392 st12_392 rfl (Nat.le_of_ble_eq_true rfl) (Nat.le_of_ble_eq_true rfl))
theorem b201_64 {d : Nat} {S : mm_S} {a0 : Nat} {x1 : Int32} {x2 : Int32} {p0 : Int32} {p1 : Nat} (h0 : mm_rk S p1 = 12) : mm_ex (d + 1) 201 64 [.ref a0, .int x1, .int x2, .null] [.int p0, .ref p1] S =
    mm_bd (mm_cl d 201 [.ref p1, .int p0, .int x2] S) (fun v S2 => mm_ex (d + 1) 201 68 [.ref a0, .int x1, .int x2, .null] (v.toList ++ []) S2) :=
  Eq.trans (mx_iload_n t201 d201_64 (x := x2) rfl) <|
  (mx_virt (st := []) (k := 12) t201 [.int p0, .int x2] d201_65 vt12_401 rfl rfl (Nat.le_of_ble_eq_true rfl) (Nat.le_of_ble_eq_true rfl) h0)
theorem b201_68 {d : Nat} {S : mm_S} {a0 : Nat} {x1 : Int32} {x2 : Int32} {p0 : Int32} : mm_ex (d + 1) 201 68 [.ref a0, .int x1, .int x2, .null] [.int p0] S =
    mm_bd (mm_cl d 199 [.int x1] S) (fun v S2 => mm_ex (d + 1) 201 75 [.ref a0, .int x1, .int x2, .int p0] (v.toList ++ [.ref a0, .int p0]) S2) :=
  Eq.trans (mx_istore_n t201 d201_68 (ls' := [.ref a0, .int x1, .int x2, .int p0]) rfl rfl) <|
  Eq.trans (mx_iload_n t201 d201_69 (x := p0) rfl) <|
  Eq.trans (mx_aload_n t201 d201_70 (x := a0) rfl) <|
  Eq.trans (mx_iload_n t201 d201_71 (x := x1) rfl) <|
  (mx_stat (st := [.ref a0, .int p0]) t201 [.int x1] d201_72 acn12_392 mxn12_392 st12_392 rfl (Nat.le_of_ble_eq_true rfl) (Nat.le_of_ble_eq_true rfl))
theorem b201_75 {d : Nat} {S : mm_S} {a0 : Nat} {x1 : Int32} {x2 : Int32} {x3 : Int32} {p0 : Int32} {p1 : Nat} {p2 : Int32} (h0 : mm_rk S p1 = 12) : mm_ex (d + 1) 201 75 [.ref a0, .int x1, .int x2, .int x3] [.int p0, .ref p1, .int p2] S =
    mm_bd (mm_cl d 200 [.ref p1, .int p0, .int (nI 2)] S) (fun v S2 => mm_ex (d + 1) 201 79 [.ref a0, .int x1, .int x2, .int x3] (v.toList ++ [.int p2]) S2) :=
  Eq.trans (mx_iconst t201 d201_75 (v := nI 2) rfl) <|
  (mx_virt (st := [.int p2]) (k := 12) t201 [.int p0, .int (nI 2)] d201_76 vt12_395 rfl rfl (Nat.le_of_ble_eq_true rfl) (Nat.le_of_ble_eq_true rfl) h0)
theorem b201_79 {d : Nat} {S : mm_S} {a0 : Nat} {x1 : Int32} {x2 : Int32} {x3 : Int32} {p0 : Int32} {p1 : Int32} : mm_ex d 201 79 [.ref a0, .int x1, .int x2, .int x3] [.int p0, .int p1] S =
    some (some (.int (p1 + p0)), S) :=
  Eq.trans (mx_iadd t201 d201_79) <|
  (mx_iret t201 d201_80 (ty := .int) rfl rfl (fun h => nomatch h))
theorem b201_81 {d : Nat} {S : mm_S} {a0 : Nat} {x1 : Int32} {x2 : Int32} : mm_ex d 201 81 [.ref a0, .int x1, .int x2, .null] [] S =
    if x1 ≤ nI 0 then mm_ex d 201 95 [.ref a0, .int x1, .int x2, .null] [] S else mm_ex d 201 85 [.ref a0, .int x1, .int x2, .null] [] S :=
  Eq.trans (mx_iload_n t201 d201_81 (x := x1) rfl) <|
  (mx_ile t201 d201_82 (tgt := 95) (by decide))
theorem b201_85 {d : Nat} {S : mm_S} {a0 : Nat} {x1 : Int32} {x2 : Int32} : mm_ex (d + 1) 201 85 [.ref a0, .int x1, .int x2, .null] [] S =
    mm_bd (mm_cl d 199 [.int x1] S) (fun v S2 => mm_ex (d + 1) 201 90 [.ref a0, .int x1, .int x2, .null] (v.toList ++ [.ref a0]) S2) :=
  Eq.trans (mx_aload_n t201 d201_85 (x := a0) rfl) <|
  Eq.trans (mx_iload_n t201 d201_86 (x := x1) rfl) <|
  (mx_stat (st := [.ref a0]) t201 [.int x1] d201_87 acn12_392 mxn12_392 st12_392 rfl (Nat.le_of_ble_eq_true rfl) (Nat.le_of_ble_eq_true rfl))
theorem b201_90 {d : Nat} {S : mm_S} {a0 : Nat} {x1 : Int32} {x2 : Int32} {p0 : Int32} {p1 : Nat} (h0 : mm_rk S p1 = 12) : mm_ex (d + 1) 201 90 [.ref a0, .int x1, .int x2, .null] [.int p0, .ref p1] S =
    mm_bd (mm_cl d 201 [.ref p1, .int p0, .int x2] S) (fun v S2 => mm_ex (d + 1) 201 94 [.ref a0, .int x1, .int x2, .null] (v.toList ++ []) S2) :=
  Eq.trans (mx_iload_n t201 d201_90 (x := x2) rfl) <|
  (mx_virt (st := []) (k := 12) t201 [.int p0, .int x2] d201_91 vt12_401 rfl rfl (Nat.le_of_ble_eq_true rfl) (Nat.le_of_ble_eq_true rfl) h0)
theorem b201_94 {d : Nat} {S : mm_S} {a0 : Nat} {x1 : Int32} {x2 : Int32} {p0 : Int32} : mm_ex d 201 94 [.ref a0, .int x1, .int x2, .null] [.int p0] S =
    some (some (.int p0), S) :=
  (mx_iret t201 d201_94 (ty := .int) rfl rfl (fun h => nomatch h))
theorem b201_95 {d : Nat} {S : mm_S} {a0 : Nat} {x1 : Int32} {x2 : Int32} (h0 : mm_rk S a0 = 12) : mm_ex (d + 1) 201 95 [.ref a0, .int x1, .int x2, .null] [] S =
    mm_bd (mm_cl d 198 [.ref a0, .int (nI 11)] S) (fun v S2 => mm_ex (d + 1) 201 101 [.ref a0, .int x1, .int x2, .null] (v.toList ++ []) S2) :=
  Eq.trans (mx_aload_n t201 d201_95 (x := a0) rfl) <|
  Eq.trans (mx_bipush t201 d201_96 (v := nI 11) rfl) <|
  (mx_virt (st := []) (k := 12) t201 [.int (nI 11)] d201_98 vt12_389 rfl rfl (Nat.le_of_ble_eq_true rfl) (Nat.le_of_ble_eq_true rfl) h0)
theorem b201_101 {d : Nat} {S : mm_S} {a0 : Nat} {x1 : Int32} {x2 : Int32} (h0 : mm_obj S a0 12 = true) (h1 : (mm_R S a0 1).isSome = true) (h2 : mm_inb (mm_M S a0 74) (mm_N S (mm_rg S a0 1)) = true) (h3 : mm_arr S (mm_rg S a0 1) 13 = true) (h4 : mm_rk S a0 = 12) : mm_ex (d + 1) 201 101 [.ref a0, .int x1, .int x2, .null] [] S =
    mm_bd (mm_cl d 200 [.ref a0, .int (mm_M S (mm_rg S a0 1) (mm_M S a0 74).toNatClampNeg), .int x2] S) (fun v S2 => mm_ex (d + 1) 201 115 [.ref a0, .int x1, .int x2, .null] (v.toList ++ []) S2) :=
  Eq.trans (mx_aload_n t201 d201_101 (x := a0) rfl) <|
  Eq.trans (mx_aload_n t201 d201_102 (x := a0) rfl) <|
  Eq.trans (mx_getR t201 d201_103 rfl fl12_9 h0 h1) <|
  Eq.trans (mx_aload_n t201 d201_106 (x := a0) rfl) <|
  Eq.trans (mx_geti t201 d201_107 rfl fl12_398 h0) <|
  Eq.trans (mx_iald t201 d201_110 h3 h2) <|
  Eq.trans (mx_iload_n t201 d201_111 (x := x2) rfl) <|
  (mx_virt (st := []) (k := 12) t201 [.int (mm_M S (mm_rg S a0 1) (mm_M S a0 74).toNatClampNeg), .int x2] d201_112 vt12_395 rfl rfl (Nat.le_of_ble_eq_true rfl) (Nat.le_of_ble_eq_true rfl) h4)
theorem b201_115 {d : Nat} {S : mm_S} {a0 : Nat} {x1 : Int32} {x2 : Int32} {p0 : Int32} (h0 : mm_obj S a0 12 = true) (h1 : (mm_R S a0 2).isSome = true) (h2 : mm_inb (mm_M S a0 74) (mm_N S (mm_rg S a0 2)) = true) (h3 : mm_arr S (mm_rg S a0 2) 13 = true) : mm_ex d 201 115 [.ref a0, .int x1, .int x2, .null] [.int p0] S =
    some (some (.int (p0 - (mm_M S (mm_rg S a0 2) (mm_M S a0 74).toNatClampNeg))), S) :=
  Eq.trans (mx_aload_n t201 d201_115 (x := a0) rfl) <|
  Eq.trans (mx_getR t201 d201_116 rfl fl12_15 h0 h1) <|
  Eq.trans (mx_aload_n t201 d201_119 (x := a0) rfl) <|
  Eq.trans (mx_geti t201 d201_120 rfl fl12_398 h0) <|
  Eq.trans (mx_iald t201 d201_123 h3 h2) <|
  Eq.trans (mx_isub t201 d201_124) <|
  (mx_iret t201 d201_125 (ty := .int) rfl rfl (fun h => nomatch h))
theorem e201 {d : Nat} {S : mm_S} {a0 : Nat} {x1 : Int32} {x2 : Int32} : mm_cl d 201 [.ref a0, .int x1, .int x2] S = mm_ex d 201 0 [.ref a0, .int x1, .int x2, .null] [] S := mm_cl_eq t201 (Nat.le_of_ble_eq_true rfl) rfl
/-! X12_tellsIn -/
theorem dd202_0 : (decode prog_14_method_77_code 0 = .ok (.iload_n 1, 1)) ∧ (decode prog_14_method_77_code 1 = .ok (.iconst 3, 1)) ∧ (decode prog_14_method_77_code 2 = .ok (.if_icmp .ne 36, 3)) ∧ (decode prog_14_method_77_code 5 = .ok (.aload_n 0, 1)) ∧ (decode prog_14_method_77_code 6 = .ok (.bipush 40, 2)) ∧ (decode prog_14_method_77_code 8 = .ok (.invokevirtual 389, 3)) ∧ (decode prog_14_method_77_code 11 = .ok (.aload_n 0, 1)) ∧ (decode prog_14_method_77_code 12 = .ok (.iload_n 1, 1)) ∧ (decode prog_14_method_77_code 13 = .ok (.invokestatic 392, 3)) ∧ (decode prog_14_method_77_code 16 = .ok (.iload_n 2, 1)) ∧ (decode prog_14_method_77_code 17 = .ok (.invokevirtual 404, 3)) ∧ (decode prog_14_method_77_code 20 = .ok (.istore_n 3, 1)) ∧ (decode prog_14_method_77_code 21 = .ok (.iload_n 3, 1)) ∧ (decode prog_14_method_77_code 22 = .ok (.aload_n 0, 1)) ∧ (decode prog_14_method_77_code 23 = .ok (.aload_n 0, 1)) ∧ (decode prog_14_method_77_code 24 = .ok (.getfield 9, 3)) := by decide +kernel
theorem d202_0 : decode prog_14_method_77_code 0 = .ok (.iload_n 1, 1) := dd202_0.1
theorem d202_1 : decode prog_14_method_77_code 1 = .ok (.iconst 3, 1) := dd202_0.2.1
theorem d202_2 : decode prog_14_method_77_code 2 = .ok (.if_icmp .ne 36, 3) := dd202_0.2.2.1
theorem d202_5 : decode prog_14_method_77_code 5 = .ok (.aload_n 0, 1) := dd202_0.2.2.2.1
theorem d202_6 : decode prog_14_method_77_code 6 = .ok (.bipush 40, 2) := dd202_0.2.2.2.2.1
theorem d202_8 : decode prog_14_method_77_code 8 = .ok (.invokevirtual 389, 3) := dd202_0.2.2.2.2.2.1
theorem d202_11 : decode prog_14_method_77_code 11 = .ok (.aload_n 0, 1) := dd202_0.2.2.2.2.2.2.1
theorem d202_12 : decode prog_14_method_77_code 12 = .ok (.iload_n 1, 1) := dd202_0.2.2.2.2.2.2.2.1
theorem d202_13 : decode prog_14_method_77_code 13 = .ok (.invokestatic 392, 3) := dd202_0.2.2.2.2.2.2.2.2.1
theorem d202_16 : decode prog_14_method_77_code 16 = .ok (.iload_n 2, 1) := dd202_0.2.2.2.2.2.2.2.2.2.1
theorem d202_17 : decode prog_14_method_77_code 17 = .ok (.invokevirtual 404, 3) := dd202_0.2.2.2.2.2.2.2.2.2.2.1
theorem d202_20 : decode prog_14_method_77_code 20 = .ok (.istore_n 3, 1) := dd202_0.2.2.2.2.2.2.2.2.2.2.2.1
theorem d202_21 : decode prog_14_method_77_code 21 = .ok (.iload_n 3, 1) := dd202_0.2.2.2.2.2.2.2.2.2.2.2.2.1
theorem d202_22 : decode prog_14_method_77_code 22 = .ok (.aload_n 0, 1) := dd202_0.2.2.2.2.2.2.2.2.2.2.2.2.2.1
theorem d202_23 : decode prog_14_method_77_code 23 = .ok (.aload_n 0, 1) := dd202_0.2.2.2.2.2.2.2.2.2.2.2.2.2.2.1
theorem d202_24 : decode prog_14_method_77_code 24 = .ok (.getfield 9, 3) := dd202_0.2.2.2.2.2.2.2.2.2.2.2.2.2.2.2
theorem dd202_27 : (decode prog_14_method_77_code 27 = .ok (.aload_n 0, 1)) ∧ (decode prog_14_method_77_code 28 = .ok (.getfield 398, 3)) ∧ (decode prog_14_method_77_code 31 = .ok (.iaload, 1)) ∧ (decode prog_14_method_77_code 32 = .ok (.iconst 1, 1)) ∧ (decode prog_14_method_77_code 33 = .ok (.invokevirtual 401, 3)) ∧ (decode prog_14_method_77_code 36 = .ok (.iadd, 1)) ∧ (decode prog_14_method_77_code 37 = .ok (.ireturn, 1)) ∧ (decode prog_14_method_77_code 38 = .ok (.iload_n 1, 1)) ∧ (decode prog_14_method_77_code 39 = .ok (.iconst 5, 1)) ∧ (decode prog_14_method_77_code 40 = .ok (.if_icmp .ne 24, 3)) ∧ (decode prog_14_method_77_code 43 = .ok (.aload_n 0, 1)) ∧ (decode prog_14_method_77_code 44 = .ok (.bipush 60, 2)) ∧ (decode prog_14_method_77_code 46 = .ok (.invokevirtual 389, 3)) ∧ (decode prog_14_method_77_code 49 = .ok (.aload_n 0, 1)) ∧ (decode prog_14_method_77_code 50 = .ok (.iload_n 1, 1)) ∧ (decode prog_14_method_77_code 51 = .ok (.invokestatic 392, 3)) := by decide +kernel
theorem d202_27 : decode prog_14_method_77_code 27 = .ok (.aload_n 0, 1) := dd202_27.1
theorem d202_28 : decode prog_14_method_77_code 28 = .ok (.getfield 398, 3) := dd202_27.2.1
theorem d202_31 : decode prog_14_method_77_code 31 = .ok (.iaload, 1) := dd202_27.2.2.1
theorem d202_32 : decode prog_14_method_77_code 32 = .ok (.iconst 1, 1) := dd202_27.2.2.2.1
theorem d202_33 : decode prog_14_method_77_code 33 = .ok (.invokevirtual 401, 3) := dd202_27.2.2.2.2.1
theorem d202_36 : decode prog_14_method_77_code 36 = .ok (.iadd, 1) := dd202_27.2.2.2.2.2.1
theorem d202_37 : decode prog_14_method_77_code 37 = .ok (.ireturn, 1) := dd202_27.2.2.2.2.2.2.1
theorem d202_38 : decode prog_14_method_77_code 38 = .ok (.iload_n 1, 1) := dd202_27.2.2.2.2.2.2.2.1
theorem d202_39 : decode prog_14_method_77_code 39 = .ok (.iconst 5, 1) := dd202_27.2.2.2.2.2.2.2.2.1
theorem d202_40 : decode prog_14_method_77_code 40 = .ok (.if_icmp .ne 24, 3) := dd202_27.2.2.2.2.2.2.2.2.2.1
theorem d202_43 : decode prog_14_method_77_code 43 = .ok (.aload_n 0, 1) := dd202_27.2.2.2.2.2.2.2.2.2.2.1
theorem d202_44 : decode prog_14_method_77_code 44 = .ok (.bipush 60, 2) := dd202_27.2.2.2.2.2.2.2.2.2.2.2.1
theorem d202_46 : decode prog_14_method_77_code 46 = .ok (.invokevirtual 389, 3) := dd202_27.2.2.2.2.2.2.2.2.2.2.2.2.1
theorem d202_49 : decode prog_14_method_77_code 49 = .ok (.aload_n 0, 1) := dd202_27.2.2.2.2.2.2.2.2.2.2.2.2.2.1
theorem d202_50 : decode prog_14_method_77_code 50 = .ok (.iload_n 1, 1) := dd202_27.2.2.2.2.2.2.2.2.2.2.2.2.2.2.1
theorem d202_51 : decode prog_14_method_77_code 51 = .ok (.invokestatic 392, 3) := dd202_27.2.2.2.2.2.2.2.2.2.2.2.2.2.2.2
theorem dd202_54 : (decode prog_14_method_77_code 54 = .ok (.iload_n 2, 1)) ∧ (decode prog_14_method_77_code 55 = .ok (.aload_n 0, 1)) ∧ (decode prog_14_method_77_code 56 = .ok (.getfield 398, 3)) ∧ (decode prog_14_method_77_code 59 = .ok (.isub, 1)) ∧ (decode prog_14_method_77_code 60 = .ok (.invokevirtual 404, 3)) ∧ (decode prog_14_method_77_code 63 = .ok (.ireturn, 1)) ∧ (decode prog_14_method_77_code 64 = .ok (.iload_n 1, 1)) ∧ (decode prog_14_method_77_code 65 = .ok (.ifCond .le 13, 3)) ∧ (decode prog_14_method_77_code 68 = .ok (.aload_n 0, 1)) ∧ (decode prog_14_method_77_code 69 = .ok (.iload_n 1, 1)) ∧ (decode prog_14_method_77_code 70 = .ok (.invokestatic 392, 3)) ∧ (decode prog_14_method_77_code 73 = .ok (.iload_n 2, 1)) ∧ (decode prog_14_method_77_code 74 = .ok (.invokevirtual 404, 3)) ∧ (decode prog_14_method_77_code 77 = .ok (.ireturn, 1)) ∧ (decode prog_14_method_77_code 78 = .ok (.aload_n 0, 1)) ∧ (decode prog_14_method_77_code 79 = .ok (.bipush 12, 2)) := by decide +kernel
theorem d202_54 : decode prog_14_method_77_code 54 = .ok (.iload_n 2, 1) := dd202_54.1
theorem d202_55 : decode prog_14_method_77_code 55 = .ok (.aload_n 0, 1) := dd202_54.2.1
theorem d202_56 : decode prog_14_method_77_code 56 = .ok (.getfield 398, 3) := dd202_54.2.2.1
theorem d202_59 : decode prog_14_method_77_code 59 = .ok (.isub, 1) := dd202_54.2.2.2.1
theorem d202_60 : decode prog_14_method_77_code 60 = .ok (.invokevirtual 404, 3) := dd202_54.2.2.2.2.1
theorem d202_63 : decode prog_14_method_77_code 63 = .ok (.ireturn, 1) := dd202_54.2.2.2.2.2.1
theorem d202_64 : decode prog_14_method_77_code 64 = .ok (.iload_n 1, 1) := dd202_54.2.2.2.2.2.2.1
theorem d202_65 : decode prog_14_method_77_code 65 = .ok (.ifCond .le 13, 3) := dd202_54.2.2.2.2.2.2.2.1
theorem d202_68 : decode prog_14_method_77_code 68 = .ok (.aload_n 0, 1) := dd202_54.2.2.2.2.2.2.2.2.1
theorem d202_69 : decode prog_14_method_77_code 69 = .ok (.iload_n 1, 1) := dd202_54.2.2.2.2.2.2.2.2.2.1
theorem d202_70 : decode prog_14_method_77_code 70 = .ok (.invokestatic 392, 3) := dd202_54.2.2.2.2.2.2.2.2.2.2.1
theorem d202_73 : decode prog_14_method_77_code 73 = .ok (.iload_n 2, 1) := dd202_54.2.2.2.2.2.2.2.2.2.2.2.1
theorem d202_74 : decode prog_14_method_77_code 74 = .ok (.invokevirtual 404, 3) := dd202_54.2.2.2.2.2.2.2.2.2.2.2.2.1
theorem d202_77 : decode prog_14_method_77_code 77 = .ok (.ireturn, 1) := dd202_54.2.2.2.2.2.2.2.2.2.2.2.2.2.1
theorem d202_78 : decode prog_14_method_77_code 78 = .ok (.aload_n 0, 1) := dd202_54.2.2.2.2.2.2.2.2.2.2.2.2.2.2.1
theorem d202_79 : decode prog_14_method_77_code 79 = .ok (.bipush 12, 2) := dd202_54.2.2.2.2.2.2.2.2.2.2.2.2.2.2.2
theorem dd202_81 : (decode prog_14_method_77_code 81 = .ok (.invokevirtual 389, 3)) ∧ (decode prog_14_method_77_code 84 = .ok (.aload_n 0, 1)) ∧ (decode prog_14_method_77_code 85 = .ok (.aload_n 0, 1)) ∧ (decode prog_14_method_77_code 86 = .ok (.getfield 9, 3)) ∧ (decode prog_14_method_77_code 89 = .ok (.aload_n 0, 1)) ∧ (decode prog_14_method_77_code 90 = .ok (.getfield 398, 3)) ∧ (decode prog_14_method_77_code 93 = .ok (.iaload, 1)) ∧ (decode prog_14_method_77_code 94 = .ok (.iload_n 2, 1)) ∧ (decode prog_14_method_77_code 95 = .ok (.invokevirtual 401, 3)) ∧ (decode prog_14_method_77_code 98 = .ok (.iconst 2, 1)) ∧ (decode prog_14_method_77_code 99 = .ok (.imul, 1)) ∧ (decode prog_14_method_77_code 100 = .ok (.ireturn, 1)) := by decide +kernel
theorem d202_81 : decode prog_14_method_77_code 81 = .ok (.invokevirtual 389, 3) := dd202_81.1
theorem d202_84 : decode prog_14_method_77_code 84 = .ok (.aload_n 0, 1) := dd202_81.2.1
theorem d202_85 : decode prog_14_method_77_code 85 = .ok (.aload_n 0, 1) := dd202_81.2.2.1
theorem d202_86 : decode prog_14_method_77_code 86 = .ok (.getfield 9, 3) := dd202_81.2.2.2.1
theorem d202_89 : decode prog_14_method_77_code 89 = .ok (.aload_n 0, 1) := dd202_81.2.2.2.2.1
theorem d202_90 : decode prog_14_method_77_code 90 = .ok (.getfield 398, 3) := dd202_81.2.2.2.2.2.1
theorem d202_93 : decode prog_14_method_77_code 93 = .ok (.iaload, 1) := dd202_81.2.2.2.2.2.2.1
theorem d202_94 : decode prog_14_method_77_code 94 = .ok (.iload_n 2, 1) := dd202_81.2.2.2.2.2.2.2.1
theorem d202_95 : decode prog_14_method_77_code 95 = .ok (.invokevirtual 401, 3) := dd202_81.2.2.2.2.2.2.2.2.1
theorem d202_98 : decode prog_14_method_77_code 98 = .ok (.iconst 2, 1) := dd202_81.2.2.2.2.2.2.2.2.2.1
theorem d202_99 : decode prog_14_method_77_code 99 = .ok (.imul, 1) := dd202_81.2.2.2.2.2.2.2.2.2.2.1
theorem d202_100 : decode prog_14_method_77_code 100 = .ok (.ireturn, 1) := dd202_81.2.2.2.2.2.2.2.2.2.2.2
theorem b202_0 {d : Nat} {S : mm_S} {a0 : Nat} {x1 : Int32} {x2 : Int32} : mm_ex d 202 0 [.ref a0, .int x1, .int x2, .null] [] S =
    if x1 = (nI 3) then mm_ex d 202 5 [.ref a0, .int x1, .int x2, .null] [] S else mm_ex d 202 38 [.ref a0, .int x1, .int x2, .null] [] S :=
  Eq.trans (mx_iload_n t202 d202_0 (x := x1) rfl) <|
  Eq.trans (mx_iconst t202 d202_1 (v := nI 3) rfl) <|
  (mx_cne t202 d202_2 (tgt := 38) (by decide))
theorem b202_5 {d : Nat} {S : mm_S} {a0 : Nat} {x1 : Int32} {x2 : Int32} (h0 : mm_rk S a0 = 12) : mm_ex (d + 1) 202 5 [.ref a0, .int x1, .int x2, .null] [] S =
    mm_bd (mm_cl d 198 [.ref a0, .int (nI 40)] S) (fun v S2 => mm_ex (d + 1) 202 11 [.ref a0, .int x1, .int x2, .null] (v.toList ++ []) S2) :=
  Eq.trans (mx_aload_n t202 d202_5 (x := a0) rfl) <|
  Eq.trans (mx_bipush t202 d202_6 (v := nI 40) rfl) <|
  (mx_virt (st := []) (k := 12) t202 [.int (nI 40)] d202_8 vt12_389 rfl rfl (Nat.le_of_ble_eq_true rfl) (Nat.le_of_ble_eq_true rfl) h0)
theorem b202_11 {d : Nat} {S : mm_S} {a0 : Nat} {x1 : Int32} {x2 : Int32} : mm_ex (d + 1) 202 11 [.ref a0, .int x1, .int x2, .null] [] S =
    mm_bd (mm_cl d 199 [.int x1] S) (fun v S2 => mm_ex (d + 1) 202 16 [.ref a0, .int x1, .int x2, .null] (v.toList ++ [.ref a0]) S2) :=
  Eq.trans (mx_aload_n t202 d202_11 (x := a0) rfl) <|
  Eq.trans (mx_iload_n t202 d202_12 (x := x1) rfl) <|
  (mx_stat (st := [.ref a0]) t202 [.int x1] d202_13 acn12_392 mxn12_392 st12_392 rfl (Nat.le_of_ble_eq_true rfl) (Nat.le_of_ble_eq_true rfl))
theorem b202_16 {d : Nat} {S : mm_S} {a0 : Nat} {x1 : Int32} {x2 : Int32} {p0 : Int32} {p1 : Nat} (h0 : mm_rk S p1 = 12) : mm_ex (d + 1) 202 16 [.ref a0, .int x1, .int x2, .null] [.int p0, .ref p1] S =
    mm_bd (mm_cl d 202 [.ref p1, .int p0, .int x2] S) (fun v S2 => mm_ex (d + 1) 202 20 [.ref a0, .int x1, .int x2, .null] (v.toList ++ []) S2) :=
  Eq.trans (mx_iload_n t202 d202_16 (x := x2) rfl) <|
  (mx_virt (st := []) (k := 12) t202 [.int p0, .int x2] d202_17 vt12_404 rfl rfl (Nat.le_of_ble_eq_true rfl) (Nat.le_of_ble_eq_true rfl) h0)
theorem b202_20 {d : Nat} {S : mm_S} {a0 : Nat} {x1 : Int32} {x2 : Int32} {p0 : Int32} (h0 : mm_obj S a0 12 = true) (h1 : (mm_R S a0 1).isSome = true) (h2 : mm_inb (mm_M S a0 74) (mm_N S (mm_rg S a0 1)) = true) (h3 : mm_arr S (mm_rg S a0 1) 13 = true) (h4 : mm_rk S a0 = 12) : mm_ex (d + 1) 202 20 [.ref a0, .int x1, .int x2, .null] [.int p0] S =
    mm_bd (mm_cl d 201 [.ref a0, .int (mm_M S (mm_rg S a0 1) (mm_M S a0 74).toNatClampNeg), .int (nI 1)] S) (fun v S2 => mm_ex (d + 1) 202 36 [.ref a0, .int x1, .int x2, .int p0] (v.toList ++ [.int p0]) S2) :=
  Eq.trans (mx_istore_n t202 d202_20 (ls' := [.ref a0, .int x1, .int x2, .int p0]) rfl rfl) <|
  Eq.trans (mx_iload_n t202 d202_21 (x := p0) rfl) <|
  Eq.trans (mx_aload_n t202 d202_22 (x := a0) rfl) <|
  Eq.trans (mx_aload_n t202 d202_23 (x := a0) rfl) <|
  Eq.trans (mx_getR t202 d202_24 rfl fl12_9 h0 h1) <|
  Eq.trans (mx_aload_n t202 d202_27 (x := a0) rfl) <|
  Eq.trans (mx_geti t202 d202_28 rfl fl12_398 h0) <|
  Eq.trans (mx_iald t202 d202_31 h3 h2) <|
  Eq.trans (mx_iconst t202 d202_32 (v := nI 1) rfl) <|
  (mx_virt (st := [.int p0]) (k := 12) t202 [.int (mm_M S (mm_rg S a0 1) (mm_M S a0 74).toNatClampNeg), .int (nI 1)] d202_33 vt12_401 rfl rfl (Nat.le_of_ble_eq_true rfl) (Nat.le_of_ble_eq_true rfl) h4)
theorem b202_36 {d : Nat} {S : mm_S} {a0 : Nat} {x1 : Int32} {x2 : Int32} {x3 : Int32} {p0 : Int32} {p1 : Int32} : mm_ex d 202 36 [.ref a0, .int x1, .int x2, .int x3] [.int p0, .int p1] S =
    some (some (.int (p1 + p0)), S) :=
  Eq.trans (mx_iadd t202 d202_36) <|
  (mx_iret t202 d202_37 (ty := .int) rfl rfl (fun h => nomatch h))
theorem b202_38 {d : Nat} {S : mm_S} {a0 : Nat} {x1 : Int32} {x2 : Int32} : mm_ex d 202 38 [.ref a0, .int x1, .int x2, .null] [] S =
    if x1 = (nI 5) then mm_ex d 202 43 [.ref a0, .int x1, .int x2, .null] [] S else mm_ex d 202 64 [.ref a0, .int x1, .int x2, .null] [] S :=
  Eq.trans (mx_iload_n t202 d202_38 (x := x1) rfl) <|
  Eq.trans (mx_iconst t202 d202_39 (v := nI 5) rfl) <|
  (mx_cne t202 d202_40 (tgt := 64) (by decide))
theorem b202_43 {d : Nat} {S : mm_S} {a0 : Nat} {x1 : Int32} {x2 : Int32} (h0 : mm_rk S a0 = 12) : mm_ex (d + 1) 202 43 [.ref a0, .int x1, .int x2, .null] [] S =
    mm_bd (mm_cl d 198 [.ref a0, .int (nI 60)] S) (fun v S2 => mm_ex (d + 1) 202 49 [.ref a0, .int x1, .int x2, .null] (v.toList ++ []) S2) :=
  Eq.trans (mx_aload_n t202 d202_43 (x := a0) rfl) <|
  Eq.trans (mx_bipush t202 d202_44 (v := nI 60) rfl) <|
  (mx_virt (st := []) (k := 12) t202 [.int (nI 60)] d202_46 vt12_389 rfl rfl (Nat.le_of_ble_eq_true rfl) (Nat.le_of_ble_eq_true rfl) h0)
theorem b202_49 {d : Nat} {S : mm_S} {a0 : Nat} {x1 : Int32} {x2 : Int32} : mm_ex (d + 1) 202 49 [.ref a0, .int x1, .int x2, .null] [] S =
    mm_bd (mm_cl d 199 [.int x1] S) (fun v S2 => mm_ex (d + 1) 202 54 [.ref a0, .int x1, .int x2, .null] (v.toList ++ [.ref a0]) S2) :=
  Eq.trans (mx_aload_n t202 d202_49 (x := a0) rfl) <|
  Eq.trans (mx_iload_n t202 d202_50 (x := x1) rfl) <|
  (mx_stat (st := [.ref a0]) t202 [.int x1] d202_51 acn12_392 mxn12_392 st12_392 rfl (Nat.le_of_ble_eq_true rfl) (Nat.le_of_ble_eq_true rfl))
theorem b202_54 {d : Nat} {S : mm_S} {a0 : Nat} {x1 : Int32} {x2 : Int32} {p0 : Int32} {p1 : Nat} (h0 : mm_obj S a0 12 = true) (h1 : mm_rk S p1 = 12) : mm_ex (d + 1) 202 54 [.ref a0, .int x1, .int x2, .null] [.int p0, .ref p1] S =
    mm_bd (mm_cl d 202 [.ref p1, .int p0, .int (x2 - (mm_M S a0 74))] S) (fun v S2 => mm_ex (d + 1) 202 63 [.ref a0, .int x1, .int x2, .null] (v.toList ++ []) S2) :=
  Eq.trans (mx_iload_n t202 d202_54 (x := x2) rfl) <|
  Eq.trans (mx_aload_n t202 d202_55 (x := a0) rfl) <|
  Eq.trans (mx_geti t202 d202_56 rfl fl12_398 h0) <|
  Eq.trans (mx_isub t202 d202_59) <|
  (mx_virt (st := []) (k := 12) t202 [.int p0, .int (x2 - (mm_M S a0 74))] d202_60 vt12_404 rfl rfl (Nat.le_of_ble_eq_true rfl) (Nat.le_of_ble_eq_true rfl) h1)
theorem b202_63 {d : Nat} {S : mm_S} {a0 : Nat} {x1 : Int32} {x2 : Int32} {p0 : Int32} : mm_ex d 202 63 [.ref a0, .int x1, .int x2, .null] [.int p0] S =
    some (some (.int p0), S) :=
  (mx_iret t202 d202_63 (ty := .int) rfl rfl (fun h => nomatch h))
theorem b202_64 {d : Nat} {S : mm_S} {a0 : Nat} {x1 : Int32} {x2 : Int32} : mm_ex d 202 64 [.ref a0, .int x1, .int x2, .null] [] S =
    if x1 ≤ nI 0 then mm_ex d 202 78 [.ref a0, .int x1, .int x2, .null] [] S else mm_ex d 202 68 [.ref a0, .int x1, .int x2, .null] [] S :=
  Eq.trans (mx_iload_n t202 d202_64 (x := x1) rfl) <|
  (mx_ile t202 d202_65 (tgt := 78) (by decide))
theorem b202_68 {d : Nat} {S : mm_S} {a0 : Nat} {x1 : Int32} {x2 : Int32} : mm_ex (d + 1) 202 68 [.ref a0, .int x1, .int x2, .null] [] S =
    mm_bd (mm_cl d 199 [.int x1] S) (fun v S2 => mm_ex (d + 1) 202 73 [.ref a0, .int x1, .int x2, .null] (v.toList ++ [.ref a0]) S2) :=
  Eq.trans (mx_aload_n t202 d202_68 (x := a0) rfl) <|
  Eq.trans (mx_iload_n t202 d202_69 (x := x1) rfl) <|
  (mx_stat (st := [.ref a0]) t202 [.int x1] d202_70 acn12_392 mxn12_392 st12_392 rfl (Nat.le_of_ble_eq_true rfl) (Nat.le_of_ble_eq_true rfl))
theorem b202_73 {d : Nat} {S : mm_S} {a0 : Nat} {x1 : Int32} {x2 : Int32} {p0 : Int32} {p1 : Nat} (h0 : mm_rk S p1 = 12) : mm_ex (d + 1) 202 73 [.ref a0, .int x1, .int x2, .null] [.int p0, .ref p1] S =
    mm_bd (mm_cl d 202 [.ref p1, .int p0, .int x2] S) (fun v S2 => mm_ex (d + 1) 202 77 [.ref a0, .int x1, .int x2, .null] (v.toList ++ []) S2) :=
  Eq.trans (mx_iload_n t202 d202_73 (x := x2) rfl) <|
  (mx_virt (st := []) (k := 12) t202 [.int p0, .int x2] d202_74 vt12_404 rfl rfl (Nat.le_of_ble_eq_true rfl) (Nat.le_of_ble_eq_true rfl) h0)
theorem b202_77 {d : Nat} {S : mm_S} {a0 : Nat} {x1 : Int32} {x2 : Int32} {p0 : Int32} : mm_ex d 202 77 [.ref a0, .int x1, .int x2, .null] [.int p0] S =
    some (some (.int p0), S) :=
  (mx_iret t202 d202_77 (ty := .int) rfl rfl (fun h => nomatch h))
theorem b202_78 {d : Nat} {S : mm_S} {a0 : Nat} {x1 : Int32} {x2 : Int32} (h0 : mm_rk S a0 = 12) : mm_ex (d + 1) 202 78 [.ref a0, .int x1, .int x2, .null] [] S =
    mm_bd (mm_cl d 198 [.ref a0, .int (nI 12)] S) (fun v S2 => mm_ex (d + 1) 202 84 [.ref a0, .int x1, .int x2, .null] (v.toList ++ []) S2) :=
  Eq.trans (mx_aload_n t202 d202_78 (x := a0) rfl) <|
  Eq.trans (mx_bipush t202 d202_79 (v := nI 12) rfl) <|
  (mx_virt (st := []) (k := 12) t202 [.int (nI 12)] d202_81 vt12_389 rfl rfl (Nat.le_of_ble_eq_true rfl) (Nat.le_of_ble_eq_true rfl) h0)
theorem b202_84 {d : Nat} {S : mm_S} {a0 : Nat} {x1 : Int32} {x2 : Int32} (h0 : mm_obj S a0 12 = true) (h1 : (mm_R S a0 1).isSome = true) (h2 : mm_inb (mm_M S a0 74) (mm_N S (mm_rg S a0 1)) = true) (h3 : mm_arr S (mm_rg S a0 1) 13 = true) (h4 : mm_rk S a0 = 12) : mm_ex (d + 1) 202 84 [.ref a0, .int x1, .int x2, .null] [] S =
    mm_bd (mm_cl d 201 [.ref a0, .int (mm_M S (mm_rg S a0 1) (mm_M S a0 74).toNatClampNeg), .int x2] S) (fun v S2 => mm_ex (d + 1) 202 98 [.ref a0, .int x1, .int x2, .null] (v.toList ++ []) S2) :=
  Eq.trans (mx_aload_n t202 d202_84 (x := a0) rfl) <|
  Eq.trans (mx_aload_n t202 d202_85 (x := a0) rfl) <|
  Eq.trans (mx_getR t202 d202_86 rfl fl12_9 h0 h1) <|
  Eq.trans (mx_aload_n t202 d202_89 (x := a0) rfl) <|
  Eq.trans (mx_geti t202 d202_90 rfl fl12_398 h0) <|
  Eq.trans (mx_iald t202 d202_93 h3 h2) <|
  Eq.trans (mx_iload_n t202 d202_94 (x := x2) rfl) <|
  (mx_virt (st := []) (k := 12) t202 [.int (mm_M S (mm_rg S a0 1) (mm_M S a0 74).toNatClampNeg), .int x2] d202_95 vt12_401 rfl rfl (Nat.le_of_ble_eq_true rfl) (Nat.le_of_ble_eq_true rfl) h4)
theorem b202_98 {d : Nat} {S : mm_S} {a0 : Nat} {x1 : Int32} {x2 : Int32} {p0 : Int32} : mm_ex d 202 98 [.ref a0, .int x1, .int x2, .null] [.int p0] S =
    some (some (.int (p0 * (nI 2))), S) :=
  Eq.trans (mx_iconst t202 d202_98 (v := nI 2) rfl) <|
  Eq.trans (mx_imul t202 d202_99) <|
  (mx_iret t202 d202_100 (ty := .int) rfl rfl (fun h => nomatch h))
theorem e202 {d : Nat} {S : mm_S} {a0 : Nat} {x1 : Int32} {x2 : Int32} : mm_cl d 202 [.ref a0, .int x1, .int x2] S = mm_ex d 202 0 [.ref a0, .int x1, .int x2, .null] [] S := mm_cl_eq t202 (Nat.le_of_ble_eq_true rfl) rfl
/-! X12_act -/
theorem dd203_0 : (decode prog_14_method_78_code 0 = .ok (.aload_n 0, 1)) ∧ (decode prog_14_method_78_code 1 = .ok (.iconst 0, 1)) ∧ (decode prog_14_method_78_code 2 = .ok (.putfield 386, 3)) ∧ (decode prog_14_method_78_code 5 = .ok (.aload_n 0, 1)) ∧ (decode prog_14_method_78_code 6 = .ok (.iload_n 1, 1)) ∧ (decode prog_14_method_78_code 7 = .ok (.invokevirtual 169, 3)) ∧ (decode prog_14_method_78_code 10 = .ok (.ifCond .eq 12, 3)) ∧ (decode prog_14_method_78_code 13 = .ok (.iload_n 2, 1)) ∧ (decode prog_14_method_78_code 14 = .ok (.iconst 0, 1)) ∧ (decode prog_14_method_78_code 15 = .ok (.iconst 2, 1)) ∧ (decode prog_14_method_78_code 16 = .ok (.invokestatic 162, 3)) ∧ (decode prog_14_method_78_code 19 = .ok (.ifCond .ne 5, 3)) ∧ (decode prog_14_method_78_code 22 = .ok (.iconst 0, 1)) ∧ (decode prog_14_method_78_code 23 = .ok (.ireturn, 1)) ∧ (decode prog_14_method_78_code 24 = .ok (.aload_n 0, 1)) ∧ (decode prog_14_method_78_code 25 = .ok (.iload_n 1, 1)) := by decide +kernel
theorem d203_0 : decode prog_14_method_78_code 0 = .ok (.aload_n 0, 1) := dd203_0.1
theorem d203_1 : decode prog_14_method_78_code 1 = .ok (.iconst 0, 1) := dd203_0.2.1
theorem d203_2 : decode prog_14_method_78_code 2 = .ok (.putfield 386, 3) := dd203_0.2.2.1
theorem d203_5 : decode prog_14_method_78_code 5 = .ok (.aload_n 0, 1) := dd203_0.2.2.2.1
theorem d203_6 : decode prog_14_method_78_code 6 = .ok (.iload_n 1, 1) := dd203_0.2.2.2.2.1
theorem d203_7 : decode prog_14_method_78_code 7 = .ok (.invokevirtual 169, 3) := dd203_0.2.2.2.2.2.1
theorem d203_10 : decode prog_14_method_78_code 10 = .ok (.ifCond .eq 12, 3) := dd203_0.2.2.2.2.2.2.1
theorem d203_13 : decode prog_14_method_78_code 13 = .ok (.iload_n 2, 1) := dd203_0.2.2.2.2.2.2.2.1
theorem d203_14 : decode prog_14_method_78_code 14 = .ok (.iconst 0, 1) := dd203_0.2.2.2.2.2.2.2.2.1
theorem d203_15 : decode prog_14_method_78_code 15 = .ok (.iconst 2, 1) := dd203_0.2.2.2.2.2.2.2.2.2.1
theorem d203_16 : decode prog_14_method_78_code 16 = .ok (.invokestatic 162, 3) := dd203_0.2.2.2.2.2.2.2.2.2.2.1
theorem d203_19 : decode prog_14_method_78_code 19 = .ok (.ifCond .ne 5, 3) := dd203_0.2.2.2.2.2.2.2.2.2.2.2.1
theorem d203_22 : decode prog_14_method_78_code 22 = .ok (.iconst 0, 1) := dd203_0.2.2.2.2.2.2.2.2.2.2.2.2.1
theorem d203_23 : decode prog_14_method_78_code 23 = .ok (.ireturn, 1) := dd203_0.2.2.2.2.2.2.2.2.2.2.2.2.2.1
theorem d203_24 : decode prog_14_method_78_code 24 = .ok (.aload_n 0, 1) := dd203_0.2.2.2.2.2.2.2.2.2.2.2.2.2.2.1
theorem d203_25 : decode prog_14_method_78_code 25 = .ok (.iload_n 1, 1) := dd203_0.2.2.2.2.2.2.2.2.2.2.2.2.2.2.2
theorem dd203_26 : (decode prog_14_method_78_code 26 = .ok (.putfield 398, 3)) ∧ (decode prog_14_method_78_code 29 = .ok (.iload_n 2, 1)) ∧ (decode prog_14_method_78_code 30 = .ok (.ifCond .ne 17, 3)) ∧ (decode prog_14_method_78_code 33 = .ok (.aload_n 0, 1)) ∧ (decode prog_14_method_78_code 34 = .ok (.aload_n 0, 1)) ∧ (decode prog_14_method_78_code 35 = .ok (.getfield 9, 3)) ∧ (decode prog_14_method_78_code 38 = .ok (.iload_n 1, 1)) ∧ (decode prog_14_method_78_code 39 = .ok (.iaload, 1)) ∧ (decode prog_14_method_78_code 40 = .ok (.iload_n 3, 1)) ∧ (decode prog_14_method_78_code 41 = .ok (.invokevirtual 395, 3)) ∧ (decode prog_14_method_78_code 44 = .ok (.goto 33, 3)) ∧ (decode prog_14_method_78_code 47 = .ok (.iload_n 2, 1)) ∧ (decode prog_14_method_78_code 48 = .ok (.iconst 1, 1)) ∧ (decode prog_14_method_78_code 49 = .ok (.if_icmp .ne 17, 3)) ∧ (decode prog_14_method_78_code 52 = .ok (.aload_n 0, 1)) ∧ (decode prog_14_method_78_code 53 = .ok (.aload_n 0, 1)) := by decide +kernel
theorem d203_26 : decode prog_14_method_78_code 26 = .ok (.putfield 398, 3) := dd203_26.1
theorem d203_29 : decode prog_14_method_78_code 29 = .ok (.iload_n 2, 1) := dd203_26.2.1
theorem d203_30 : decode prog_14_method_78_code 30 = .ok (.ifCond .ne 17, 3) := dd203_26.2.2.1
theorem d203_33 : decode prog_14_method_78_code 33 = .ok (.aload_n 0, 1) := dd203_26.2.2.2.1
theorem d203_34 : decode prog_14_method_78_code 34 = .ok (.aload_n 0, 1) := dd203_26.2.2.2.2.1
theorem d203_35 : decode prog_14_method_78_code 35 = .ok (.getfield 9, 3) := dd203_26.2.2.2.2.2.1
theorem d203_38 : decode prog_14_method_78_code 38 = .ok (.iload_n 1, 1) := dd203_26.2.2.2.2.2.2.1
theorem d203_39 : decode prog_14_method_78_code 39 = .ok (.iaload, 1) := dd203_26.2.2.2.2.2.2.2.1
theorem d203_40 : decode prog_14_method_78_code 40 = .ok (.iload_n 3, 1) := dd203_26.2.2.2.2.2.2.2.2.1
theorem d203_41 : decode prog_14_method_78_code 41 = .ok (.invokevirtual 395, 3) := dd203_26.2.2.2.2.2.2.2.2.2.1
theorem d203_44 : decode prog_14_method_78_code 44 = .ok (.goto 33, 3) := dd203_26.2.2.2.2.2.2.2.2.2.2.1
theorem d203_47 : decode prog_14_method_78_code 47 = .ok (.iload_n 2, 1) := dd203_26.2.2.2.2.2.2.2.2.2.2.2.1
theorem d203_48 : decode prog_14_method_78_code 48 = .ok (.iconst 1, 1) := dd203_26.2.2.2.2.2.2.2.2.2.2.2.2.1
theorem d203_49 : decode prog_14_method_78_code 49 = .ok (.if_icmp .ne 17, 3) := dd203_26.2.2.2.2.2.2.2.2.2.2.2.2.2.1
theorem d203_52 : decode prog_14_method_78_code 52 = .ok (.aload_n 0, 1) := dd203_26.2.2.2.2.2.2.2.2.2.2.2.2.2.2.1
theorem d203_53 : decode prog_14_method_78_code 53 = .ok (.aload_n 0, 1) := dd203_26.2.2.2.2.2.2.2.2.2.2.2.2.2.2.2
theorem dd203_54 : (decode prog_14_method_78_code 54 = .ok (.getfield 9, 3)) ∧ (decode prog_14_method_78_code 57 = .ok (.iload_n 1, 1)) ∧ (decode prog_14_method_78_code 58 = .ok (.iaload, 1)) ∧ (decode prog_14_method_78_code 59 = .ok (.iload_n 3, 1)) ∧ (decode prog_14_method_78_code 60 = .ok (.invokevirtual 401, 3)) ∧ (decode prog_14_method_78_code 63 = .ok (.goto 14, 3)) ∧ (decode prog_14_method_78_code 66 = .ok (.aload_n 0, 1)) ∧ (decode prog_14_method_78_code 67 = .ok (.aload_n 0, 1)) ∧ (decode prog_14_method_78_code 68 = .ok (.getfield 9, 3)) ∧ (decode prog_14_method_78_code 71 = .ok (.iload_n 1, 1)) ∧ (decode prog_14_method_78_code 72 = .ok (.iaload, 1)) ∧ (decode prog_14_method_78_code 73 = .ok (.iload_n 3, 1)) ∧ (decode prog_14_method_78_code 74 = .ok (.invokevirtual 404, 3)) ∧ (decode prog_14_method_78_code 77 = .ok (.ireturn, 1)) := by decide +kernel
theorem d203_54 : decode prog_14_method_78_code 54 = .ok (.getfield 9, 3) := dd203_54.1
theorem d203_57 : decode prog_14_method_78_code 57 = .ok (.iload_n 1, 1) := dd203_54.2.1
theorem d203_58 : decode prog_14_method_78_code 58 = .ok (.iaload, 1) := dd203_54.2.2.1
theorem d203_59 : decode prog_14_method_78_code 59 = .ok (.iload_n 3, 1) := dd203_54.2.2.2.1
theorem d203_60 : decode prog_14_method_78_code 60 = .ok (.invokevirtual 401, 3) := dd203_54.2.2.2.2.1
theorem d203_63 : decode prog_14_method_78_code 63 = .ok (.goto 14, 3) := dd203_54.2.2.2.2.2.1
theorem d203_66 : decode prog_14_method_78_code 66 = .ok (.aload_n 0, 1) := dd203_54.2.2.2.2.2.2.1
theorem d203_67 : decode prog_14_method_78_code 67 = .ok (.aload_n 0, 1) := dd203_54.2.2.2.2.2.2.2.1
theorem d203_68 : decode prog_14_method_78_code 68 = .ok (.getfield 9, 3) := dd203_54.2.2.2.2.2.2.2.2.1
theorem d203_71 : decode prog_14_method_78_code 71 = .ok (.iload_n 1, 1) := dd203_54.2.2.2.2.2.2.2.2.2.1
theorem d203_72 : decode prog_14_method_78_code 72 = .ok (.iaload, 1) := dd203_54.2.2.2.2.2.2.2.2.2.2.1
theorem d203_73 : decode prog_14_method_78_code 73 = .ok (.iload_n 3, 1) := dd203_54.2.2.2.2.2.2.2.2.2.2.2.1
theorem d203_74 : decode prog_14_method_78_code 74 = .ok (.invokevirtual 404, 3) := dd203_54.2.2.2.2.2.2.2.2.2.2.2.2.1
theorem d203_77 : decode prog_14_method_78_code 77 = .ok (.ireturn, 1) := dd203_54.2.2.2.2.2.2.2.2.2.2.2.2.2
theorem b203_0 {d : Nat} {S : mm_S} {a0 : Nat} {x1 : Int32} {x2 : Int32} {x3 : Int32} (h0 : mm_obj S a0 12 = true) (h1 : mm_rk S a0 = 12) : mm_ex (d + 1) 203 0 [.ref a0, .int x1, .int x2, .int x3] [] S =
    mm_bd (mm_cl d 129 [.ref a0, .int x1] (mm_uM S a0 28 (nI 0))) (fun v S2 => mm_ex (d + 1) 203 10 [.ref a0, .int x1, .int x2, .int x3] (v.toList ++ []) S2) :=
  Eq.trans (mx_aload_n t203 d203_0 (x := a0) rfl) <|
  Eq.trans (mx_iconst t203 d203_1 (v := nI 0) rfl) <|
  Eq.trans (mx_puti2 t203 d203_2 fl12_386 rfl h0) <|
  Eq.trans (mx_aload_n t203 d203_5 (x := a0) rfl) <|
  Eq.trans (mx_iload_n t203 d203_6 (x := x1) rfl) <|
  (mx_virt (st := []) (k := 12) t203 [.int x1] d203_7 vt12_169 rfl rfl (Nat.le_of_ble_eq_true rfl) (Nat.le_of_ble_eq_true rfl) h1)
theorem b203_10 {d : Nat} {S : mm_S} {a0 : Nat} {x1 : Int32} {x2 : Int32} {x3 : Int32} {p0 : Int32} : mm_ex d 203 10 [.ref a0, .int x1, .int x2, .int x3] [.int p0] S =
    if p0 = nI 0 then mm_ex d 203 22 [.ref a0, .int x1, .int x2, .int x3] [] S else mm_ex d 203 13 [.ref a0, .int x1, .int x2, .int x3] [] S :=
  (mx_ieq t203 d203_10 (tgt := 22) (by decide))
theorem b203_13 {d : Nat} {S : mm_S} {a0 : Nat} {x1 : Int32} {x2 : Int32} {x3 : Int32} : mm_ex (d + 1) 203 13 [.ref a0, .int x1, .int x2, .int x3] [] S =
    mm_bd (mm_cl d 128 [.int x2, .int (nI 0), .int (nI 2)] S) (fun v S2 => mm_ex (d + 1) 203 19 [.ref a0, .int x1, .int x2, .int x3] (v.toList ++ []) S2) :=
  Eq.trans (mx_iload_n t203 d203_13 (x := x2) rfl) <|
  Eq.trans (mx_iconst t203 d203_14 (v := nI 0) rfl) <|
  Eq.trans (mx_iconst t203 d203_15 (v := nI 2) rfl) <|
  (mx_stat (st := []) t203 [.int x2, .int (nI 0), .int (nI 2)] d203_16 acn12_162 mxn12_162 st12_162 rfl (Nat.le_of_ble_eq_true rfl) (Nat.le_of_ble_eq_true rfl))
theorem b203_19 {d : Nat} {S : mm_S} {a0 : Nat} {x1 : Int32} {x2 : Int32} {x3 : Int32} {p0 : Int32} : mm_ex d 203 19 [.ref a0, .int x1, .int x2, .int x3] [.int p0] S =
    if p0 = nI 0 then mm_ex d 203 22 [.ref a0, .int x1, .int x2, .int x3] [] S else mm_ex d 203 24 [.ref a0, .int x1, .int x2, .int x3] [] S :=
  (mx_ine t203 d203_19 (tgt := 24) (by decide))
theorem b203_22 {d : Nat} {S : mm_S} {a0 : Nat} {x1 : Int32} {x2 : Int32} {x3 : Int32} : mm_ex d 203 22 [.ref a0, .int x1, .int x2, .int x3] [] S =
    some (some (.int (nI 0)), S) :=
  Eq.trans (mx_iconst t203 d203_22 (v := nI 0) rfl) <|
  (mx_iret t203 d203_23 (ty := .int) rfl rfl (fun h => nomatch h))
theorem b203_24 {d : Nat} {S : mm_S} {a0 : Nat} {x1 : Int32} {x2 : Int32} {x3 : Int32} (h0 : mm_obj S a0 12 = true) : mm_ex d 203 24 [.ref a0, .int x1, .int x2, .int x3] [] S =
    if x2 = nI 0 then mm_ex d 203 33 [.ref a0, .int x1, .int x2, .int x3] [] (mm_uM S a0 74 x1) else mm_ex d 203 47 [.ref a0, .int x1, .int x2, .int x3] [] (mm_uM S a0 74 x1) :=
  Eq.trans (mx_aload_n t203 d203_24 (x := a0) rfl) <|
  Eq.trans (mx_iload_n t203 d203_25 (x := x1) rfl) <|
  Eq.trans (mx_puti2 t203 d203_26 fl12_398 rfl h0) <|
  Eq.trans (mx_iload_n t203 d203_29 (x := x2) rfl) <|
  (mx_ine t203 d203_30 (tgt := 47) (by decide))
theorem b203_33 {d : Nat} {S : mm_S} {a0 : Nat} {x1 : Int32} {x2 : Int32} {x3 : Int32} (h0 : mm_obj S a0 12 = true) (h1 : (mm_R S a0 1).isSome = true) (h2 : mm_inb x1 (mm_N S (mm_rg S a0 1)) = true) (h3 : mm_arr S (mm_rg S a0 1) 13 = true) (h4 : mm_rk S a0 = 12) : mm_ex (d + 1) 203 33 [.ref a0, .int x1, .int x2, .int x3] [] S =
    mm_bd (mm_cl d 200 [.ref a0, .int (mm_M S (mm_rg S a0 1) (x1).toNatClampNeg), .int x3] S) (fun v S2 => mm_ex (d + 1) 203 44 [.ref a0, .int x1, .int x2, .int x3] (v.toList ++ []) S2) :=
  Eq.trans (mx_aload_n t203 d203_33 (x := a0) rfl) <|
  Eq.trans (mx_aload_n t203 d203_34 (x := a0) rfl) <|
  Eq.trans (mx_getR t203 d203_35 rfl fl12_9 h0 h1) <|
  Eq.trans (mx_iload_n t203 d203_38 (x := x1) rfl) <|
  Eq.trans (mx_iald t203 d203_39 h3 h2) <|
  Eq.trans (mx_iload_n t203 d203_40 (x := x3) rfl) <|
  (mx_virt (st := []) (k := 12) t203 [.int (mm_M S (mm_rg S a0 1) (x1).toNatClampNeg), .int x3] d203_41 vt12_395 rfl rfl (Nat.le_of_ble_eq_true rfl) (Nat.le_of_ble_eq_true rfl) h4)
theorem b203_44 {d : Nat} {S : mm_S} {a0 : Nat} {x1 : Int32} {x2 : Int32} {x3 : Int32} {p0 : Int32} : mm_ex d 203 44 [.ref a0, .int x1, .int x2, .int x3] [.int p0] S =
    some (some (.int p0), S) :=
  Eq.trans (mx_goto t203 d203_44 (tgt := 77) (by decide)) <|
  (mx_iret t203 d203_77 (ty := .int) rfl rfl (fun h => nomatch h))
theorem b203_47 {d : Nat} {S : mm_S} {a0 : Nat} {x1 : Int32} {x2 : Int32} {x3 : Int32} : mm_ex d 203 47 [.ref a0, .int x1, .int x2, .int x3] [] S =
    if x2 = (nI 1) then mm_ex d 203 52 [.ref a0, .int x1, .int x2, .int x3] [] S else mm_ex d 203 66 [.ref a0, .int x1, .int x2, .int x3] [] S :=
  Eq.trans (mx_iload_n t203 d203_47 (x := x2) rfl) <|
  Eq.trans (mx_iconst t203 d203_48 (v := nI 1) rfl) <|
  (mx_cne t203 d203_49 (tgt := 66) (by decide))
theorem b203_52 {d : Nat} {S : mm_S} {a0 : Nat} {x1 : Int32} {x2 : Int32} {x3 : Int32} (h0 : mm_obj S a0 12 = true) (h1 : (mm_R S a0 1).isSome = true) (h2 : mm_inb x1 (mm_N S (mm_rg S a0 1)) = true) (h3 : mm_arr S (mm_rg S a0 1) 13 = true) (h4 : mm_rk S a0 = 12) : mm_ex (d + 1) 203 52 [.ref a0, .int x1, .int x2, .int x3] [] S =
    mm_bd (mm_cl d 201 [.ref a0, .int (mm_M S (mm_rg S a0 1) (x1).toNatClampNeg), .int x3] S) (fun v S2 => mm_ex (d + 1) 203 63 [.ref a0, .int x1, .int x2, .int x3] (v.toList ++ []) S2) :=
  Eq.trans (mx_aload_n t203 d203_52 (x := a0) rfl) <|
  Eq.trans (mx_aload_n t203 d203_53 (x := a0) rfl) <|
  Eq.trans (mx_getR t203 d203_54 rfl fl12_9 h0 h1) <|
  Eq.trans (mx_iload_n t203 d203_57 (x := x1) rfl) <|
  Eq.trans (mx_iald t203 d203_58 h3 h2) <|
  Eq.trans (mx_iload_n t203 d203_59 (x := x3) rfl) <|
  (mx_virt (st := []) (k := 12) t203 [.int (mm_M S (mm_rg S a0 1) (x1).toNatClampNeg), .int x3] d203_60 vt12_401 rfl rfl (Nat.le_of_ble_eq_true rfl) (Nat.le_of_ble_eq_true rfl) h4)
theorem b203_63 {d : Nat} {S : mm_S} {a0 : Nat} {x1 : Int32} {x2 : Int32} {x3 : Int32} {p0 : Int32} : mm_ex d 203 63 [.ref a0, .int x1, .int x2, .int x3] [.int p0] S =
    some (some (.int p0), S) :=
  Eq.trans (mx_goto t203 d203_63 (tgt := 77) (by decide)) <|
  (mx_iret t203 d203_77 (ty := .int) rfl rfl (fun h => nomatch h))
theorem b203_66 {d : Nat} {S : mm_S} {a0 : Nat} {x1 : Int32} {x2 : Int32} {x3 : Int32} (h0 : mm_obj S a0 12 = true) (h1 : (mm_R S a0 1).isSome = true) (h2 : mm_inb x1 (mm_N S (mm_rg S a0 1)) = true) (h3 : mm_arr S (mm_rg S a0 1) 13 = true) (h4 : mm_rk S a0 = 12) : mm_ex (d + 1) 203 66 [.ref a0, .int x1, .int x2, .int x3] [] S =
    mm_bd (mm_cl d 202 [.ref a0, .int (mm_M S (mm_rg S a0 1) (x1).toNatClampNeg), .int x3] S) (fun v S2 => mm_ex (d + 1) 203 77 [.ref a0, .int x1, .int x2, .int x3] (v.toList ++ []) S2) :=
  Eq.trans (mx_aload_n t203 d203_66 (x := a0) rfl) <|
  Eq.trans (mx_aload_n t203 d203_67 (x := a0) rfl) <|
  Eq.trans (mx_getR t203 d203_68 rfl fl12_9 h0 h1) <|
  Eq.trans (mx_iload_n t203 d203_71 (x := x1) rfl) <|
  Eq.trans (mx_iald t203 d203_72 h3 h2) <|
  Eq.trans (mx_iload_n t203 d203_73 (x := x3) rfl) <|
  (mx_virt (st := []) (k := 12) t203 [.int (mm_M S (mm_rg S a0 1) (x1).toNatClampNeg), .int x3] d203_74 vt12_404 rfl rfl (Nat.le_of_ble_eq_true rfl) (Nat.le_of_ble_eq_true rfl) h4)
theorem b203_77 {d : Nat} {S : mm_S} {a0 : Nat} {x1 : Int32} {x2 : Int32} {x3 : Int32} {p0 : Int32} : mm_ex d 203 77 [.ref a0, .int x1, .int x2, .int x3] [.int p0] S =
    some (some (.int p0), S) :=
  (mx_iret t203 d203_77 (ty := .int) rfl rfl (fun h => nomatch h))
theorem e203 {d : Nat} {S : mm_S} {a0 : Nat} {x1 : Int32} {x2 : Int32} {x3 : Int32} : mm_cl d 203 [.ref a0, .int x1, .int x2, .int x3] S = mm_ex d 203 0 [.ref a0, .int x1, .int x2, .int x3] [] S := mm_cl_eq t203 (Nat.le_of_ble_eq_true rfl) rfl
/-! X12_trace -/
theorem d204_0 : decode prog_14_method_79_code 0 = .ok (.iload_n 1, 1) := by decide +kernel
theorem d204_1 : decode prog_14_method_79_code 1 = .ok (.ifCond .lt 26, 3) := by decide +kernel
theorem d204_4 : decode prog_14_method_79_code 4 = .ok (.iload_n 1, 1) := by decide +kernel
theorem d204_5 : decode prog_14_method_79_code 5 = .ok (.aload_n 0, 1) := by decide +kernel
theorem d204_6 : decode prog_14_method_79_code 6 = .ok (.getfield 386, 3) := by decide +kernel
theorem d204_9 : decode prog_14_method_79_code 9 = .ok (.if_icmp .ge 18, 3) := by decide +kernel
theorem d204_12 : decode prog_14_method_79_code 12 = .ok (.iload_n 1, 1) := by decide +kernel
theorem d204_13 : decode prog_14_method_79_code 13 = .ok (.bipush 20, 2) := by decide +kernel
theorem d204_15 : decode prog_14_method_79_code 15 = .ok (.if_icmp .ge 12, 3) := by decide +kernel
theorem d204_18 : decode prog_14_method_79_code 18 = .ok (.aload_n 0, 1) := by decide +kernel
theorem d204_19 : decode prog_14_method_79_code 19 = .ok (.getfield 73, 3) := by decide +kernel
theorem d204_22 : decode prog_14_method_79_code 22 = .ok (.iload_n 1, 1) := by decide +kernel
theorem d204_23 : decode prog_14_method_79_code 23 = .ok (.iaload, 1) := by decide +kernel
theorem d204_24 : decode prog_14_method_79_code 24 = .ok (.goto 4, 3) := by decide +kernel
theorem d204_27 : decode prog_14_method_79_code 27 = .ok (.iconst (-1), 1) := by decide +kernel
theorem d204_28 : decode prog_14_method_79_code 28 = .ok (.ireturn, 1) := by decide +kernel
theorem b204_0 {d : Nat} {S : mm_S} {a0 : Nat} {x1 : Int32} : mm_ex d 204 0 [.ref a0, .int x1] [] S =
    if x1 < nI 0 then mm_ex d 204 27 [.ref a0, .int x1] [] S else mm_ex d 204 4 [.ref a0, .int x1] [] S :=
  Eq.trans (mx_iload_n t204 d204_0 (x := x1) rfl) <|
  (mx_ilt t204 d204_1 (tgt := 27) (by decide))
theorem b204_4 {d : Nat} {S : mm_S} {a0 : Nat} {x1 : Int32} (h0 : mm_obj S a0 12 = true) : mm_ex d 204 4 [.ref a0, .int x1] [] S =
    if (mm_M S a0 28) ≤ x1 then mm_ex d 204 27 [.ref a0, .int x1] [] S else mm_ex d 204 12 [.ref a0, .int x1] [] S :=
  Eq.trans (mx_iload_n t204 d204_4 (x := x1) rfl) <|
  Eq.trans (mx_aload_n t204 d204_5 (x := a0) rfl) <|
  Eq.trans (mx_geti t204 d204_6 rfl fl12_386 h0) <|
  (mx_cge t204 d204_9 (tgt := 27) (by decide))
theorem b204_12 {d : Nat} {S : mm_S} {a0 : Nat} {x1 : Int32} : mm_ex d 204 12 [.ref a0, .int x1] [] S =
    if (nI 20) ≤ x1 then mm_ex d 204 27 [.ref a0, .int x1] [] S else mm_ex d 204 18 [.ref a0, .int x1] [] S :=
  Eq.trans (mx_iload_n t204 d204_12 (x := x1) rfl) <|
  Eq.trans (mx_bipush t204 d204_13 (v := nI 20) rfl) <|
  (mx_cge t204 d204_15 (tgt := 27) (by decide))
theorem b204_18 {d : Nat} {S : mm_S} {a0 : Nat} {x1 : Int32} (h0 : mm_obj S a0 12 = true) (h1 : (mm_R S a0 29).isSome = true) (h2 : mm_inb x1 (mm_N S (mm_rg S a0 29)) = true) (h3 : mm_arr S (mm_rg S a0 29) 13 = true) : mm_ex d 204 18 [.ref a0, .int x1] [] S =
    some (some (.int (mm_M S (mm_rg S a0 29) (x1).toNatClampNeg)), S) :=
  Eq.trans (mx_aload_n t204 d204_18 (x := a0) rfl) <|
  Eq.trans (mx_getR t204 d204_19 rfl fl12_73 h0 h1) <|
  Eq.trans (mx_iload_n t204 d204_22 (x := x1) rfl) <|
  Eq.trans (mx_iald t204 d204_23 h3 h2) <|
  Eq.trans (mx_goto t204 d204_24 (tgt := 28) (by decide)) <|
  (mx_iret t204 d204_28 (ty := .int) rfl rfl (fun h => nomatch h))
theorem b204_27 {d : Nat} {S : mm_S} {a0 : Nat} {x1 : Int32} : mm_ex d 204 27 [.ref a0, .int x1] [] S =
    some (some (.int (-1)), S) :=
  Eq.trans (mx_iconst t204 d204_27 (v := -1) rfl) <|
  (mx_iret t204 d204_28 (ty := .int) rfl rfl (fun h => nomatch h))
theorem e204 {d : Nat} {S : mm_S} {a0 : Nat} {x1 : Int32} : mm_cl d 204 [.ref a0, .int x1] S = mm_ex d 204 0 [.ref a0, .int x1] [] S := mm_cl_eq t204 (Nat.le_of_ble_eq_true rfl) rfl
/-! X12_taken -/
theorem dd205_0 : (decode prog_14_method_80_code 0 = .ok (.iload_n 2, 1)) ∧ (decode prog_14_method_80_code 1 = .ok (.iconst 0, 1)) ∧ (decode prog_14_method_80_code 2 = .ok (.bipush 6, 2)) ∧ (decode prog_14_method_80_code 4 = .ok (.invokestatic 162, 3)) ∧ (decode prog_14_method_80_code 7 = .ok (.ifCond .ne 6, 3)) ∧ (decode prog_14_method_80_code 10 = .ok (.bipush (-2), 2)) ∧ (decode prog_14_method_80_code 12 = .ok (.ireturn, 1)) ∧ (decode prog_14_method_80_code 13 = .ok (.aload_n 0, 1)) ∧ (decode prog_14_method_80_code 14 = .ok (.iload_n 1, 1)) ∧ (decode prog_14_method_80_code 15 = .ok (.invokevirtual 169, 3)) ∧ (decode prog_14_method_80_code 18 = .ok (.ifCond .ne 6, 3)) ∧ (decode prog_14_method_80_code 21 = .ok (.bipush (-11), 2)) ∧ (decode prog_14_method_80_code 23 = .ok (.ireturn, 1)) ∧ (decode prog_14_method_80_code 24 = .ok (.aload_n 0, 1)) ∧ (decode prog_14_method_80_code 25 = .ok (.getfield 9, 3)) ∧ (decode prog_14_method_80_code 28 = .ok (.iload_n 1, 1)) := by decide +kernel
theorem d205_0 : decode prog_14_method_80_code 0 = .ok (.iload_n 2, 1) := dd205_0.1
theorem d205_1 : decode prog_14_method_80_code 1 = .ok (.iconst 0, 1) := dd205_0.2.1
theorem d205_2 : decode prog_14_method_80_code 2 = .ok (.bipush 6, 2) := dd205_0.2.2.1
theorem d205_4 : decode prog_14_method_80_code 4 = .ok (.invokestatic 162, 3) := dd205_0.2.2.2.1
theorem d205_7 : decode prog_14_method_80_code 7 = .ok (.ifCond .ne 6, 3) := dd205_0.2.2.2.2.1
theorem d205_10 : decode prog_14_method_80_code 10 = .ok (.bipush (-2), 2) := dd205_0.2.2.2.2.2.1
theorem d205_12 : decode prog_14_method_80_code 12 = .ok (.ireturn, 1) := dd205_0.2.2.2.2.2.2.1
theorem d205_13 : decode prog_14_method_80_code 13 = .ok (.aload_n 0, 1) := dd205_0.2.2.2.2.2.2.2.1
theorem d205_14 : decode prog_14_method_80_code 14 = .ok (.iload_n 1, 1) := dd205_0.2.2.2.2.2.2.2.2.1
theorem d205_15 : decode prog_14_method_80_code 15 = .ok (.invokevirtual 169, 3) := dd205_0.2.2.2.2.2.2.2.2.2.1
theorem d205_18 : decode prog_14_method_80_code 18 = .ok (.ifCond .ne 6, 3) := dd205_0.2.2.2.2.2.2.2.2.2.2.1
theorem d205_21 : decode prog_14_method_80_code 21 = .ok (.bipush (-11), 2) := dd205_0.2.2.2.2.2.2.2.2.2.2.2.1
theorem d205_23 : decode prog_14_method_80_code 23 = .ok (.ireturn, 1) := dd205_0.2.2.2.2.2.2.2.2.2.2.2.2.1
theorem d205_24 : decode prog_14_method_80_code 24 = .ok (.aload_n 0, 1) := dd205_0.2.2.2.2.2.2.2.2.2.2.2.2.2.1
theorem d205_25 : decode prog_14_method_80_code 25 = .ok (.getfield 9, 3) := dd205_0.2.2.2.2.2.2.2.2.2.2.2.2.2.2.1
theorem d205_28 : decode prog_14_method_80_code 28 = .ok (.iload_n 1, 1) := dd205_0.2.2.2.2.2.2.2.2.2.2.2.2.2.2.2
theorem dd205_29 : (decode prog_14_method_80_code 29 = .ok (.iaload, 1)) ∧ (decode prog_14_method_80_code 30 = .ok (.istore_n 3, 1)) ∧ (decode prog_14_method_80_code 31 = .ok (.iload_n 3, 1)) ∧ (decode prog_14_method_80_code 32 = .ok (.iload_n 2, 1)) ∧ (decode prog_14_method_80_code 33 = .ok (.if_icmp .eq 16, 3)) ∧ (decode prog_14_method_80_code 36 = .ok (.iload_n 3, 1)) ∧ (decode prog_14_method_80_code 37 = .ok (.iconst (-1), 1)) ∧ (decode prog_14_method_80_code 38 = .ok (.if_icmp .eq 11, 3)) ∧ (decode prog_14_method_80_code 41 = .ok (.iload_n 3, 1)) ∧ (decode prog_14_method_80_code 42 = .ok (.invokestatic 392, 3)) ∧ (decode prog_14_method_80_code 45 = .ok (.istore_n 3, 1)) ∧ (decode prog_14_method_80_code 46 = .ok (.goto (-15), 3)) ∧ (decode prog_14_method_80_code 49 = .ok (.iload_n 3, 1)) ∧ (decode prog_14_method_80_code 50 = .ok (.iconst (-1), 1)) ∧ (decode prog_14_method_80_code 51 = .ok (.if_icmp .ne 8, 3)) ∧ (decode prog_14_method_80_code 54 = .ok (.bipush (-12), 2)) := by decide +kernel
theorem d205_29 : decode prog_14_method_80_code 29 = .ok (.iaload, 1) := dd205_29.1
theorem d205_30 : decode prog_14_method_80_code 30 = .ok (.istore_n 3, 1) := dd205_29.2.1
theorem d205_31 : decode prog_14_method_80_code 31 = .ok (.iload_n 3, 1) := dd205_29.2.2.1
theorem d205_32 : decode prog_14_method_80_code 32 = .ok (.iload_n 2, 1) := dd205_29.2.2.2.1
theorem d205_33 : decode prog_14_method_80_code 33 = .ok (.if_icmp .eq 16, 3) := dd205_29.2.2.2.2.1
theorem d205_36 : decode prog_14_method_80_code 36 = .ok (.iload_n 3, 1) := dd205_29.2.2.2.2.2.1
theorem d205_37 : decode prog_14_method_80_code 37 = .ok (.iconst (-1), 1) := dd205_29.2.2.2.2.2.2.1
theorem d205_38 : decode prog_14_method_80_code 38 = .ok (.if_icmp .eq 11, 3) := dd205_29.2.2.2.2.2.2.2.1
theorem d205_41 : decode prog_14_method_80_code 41 = .ok (.iload_n 3, 1) := dd205_29.2.2.2.2.2.2.2.2.1
theorem d205_42 : decode prog_14_method_80_code 42 = .ok (.invokestatic 392, 3) := dd205_29.2.2.2.2.2.2.2.2.2.1
theorem d205_45 : decode prog_14_method_80_code 45 = .ok (.istore_n 3, 1) := dd205_29.2.2.2.2.2.2.2.2.2.2.1
theorem d205_46 : decode prog_14_method_80_code 46 = .ok (.goto (-15), 3) := dd205_29.2.2.2.2.2.2.2.2.2.2.2.1
theorem d205_49 : decode prog_14_method_80_code 49 = .ok (.iload_n 3, 1) := dd205_29.2.2.2.2.2.2.2.2.2.2.2.2.1
theorem d205_50 : decode prog_14_method_80_code 50 = .ok (.iconst (-1), 1) := dd205_29.2.2.2.2.2.2.2.2.2.2.2.2.2.1
theorem d205_51 : decode prog_14_method_80_code 51 = .ok (.if_icmp .ne 8, 3) := dd205_29.2.2.2.2.2.2.2.2.2.2.2.2.2.2.1
theorem d205_54 : decode prog_14_method_80_code 54 = .ok (.bipush (-12), 2) := dd205_29.2.2.2.2.2.2.2.2.2.2.2.2.2.2.2
theorem dd205_56 : (decode prog_14_method_80_code 56 = .ok (.goto 9, 3)) ∧ (decode prog_14_method_80_code 59 = .ok (.aload_n 0, 1)) ∧ (decode prog_14_method_80_code 60 = .ok (.getfield 9, 3)) ∧ (decode prog_14_method_80_code 63 = .ok (.iload_n 1, 1)) ∧ (decode prog_14_method_80_code 64 = .ok (.iaload, 1)) ∧ (decode prog_14_method_80_code 65 = .ok (.ireturn, 1)) := by decide +kernel
theorem d205_56 : decode prog_14_method_80_code 56 = .ok (.goto 9, 3) := dd205_56.1
theorem d205_59 : decode prog_14_method_80_code 59 = .ok (.aload_n 0, 1) := dd205_56.2.1
theorem d205_60 : decode prog_14_method_80_code 60 = .ok (.getfield 9, 3) := dd205_56.2.2.1
theorem d205_63 : decode prog_14_method_80_code 63 = .ok (.iload_n 1, 1) := dd205_56.2.2.2.1
theorem d205_64 : decode prog_14_method_80_code 64 = .ok (.iaload, 1) := dd205_56.2.2.2.2.1
theorem d205_65 : decode prog_14_method_80_code 65 = .ok (.ireturn, 1) := dd205_56.2.2.2.2.2
theorem b205_0 {d : Nat} {S : mm_S} {a0 : Nat} {x1 : Int32} {x2 : Int32} : mm_ex (d + 1) 205 0 [.ref a0, .int x1, .int x2, .null] [] S =
    mm_bd (mm_cl d 128 [.int x2, .int (nI 0), .int (nI 6)] S) (fun v S2 => mm_ex (d + 1) 205 7 [.ref a0, .int x1, .int x2, .null] (v.toList ++ []) S2) :=
  Eq.trans (mx_iload_n t205 d205_0 (x := x2) rfl) <|
  Eq.trans (mx_iconst t205 d205_1 (v := nI 0) rfl) <|
  Eq.trans (mx_bipush t205 d205_2 (v := nI 6) rfl) <|
  (mx_stat (st := []) t205 [.int x2, .int (nI 0), .int (nI 6)] d205_4 acn12_162 mxn12_162 st12_162 rfl (Nat.le_of_ble_eq_true rfl) (Nat.le_of_ble_eq_true rfl))
theorem b205_7 {d : Nat} {S : mm_S} {a0 : Nat} {x1 : Int32} {x2 : Int32} {p0 : Int32} : mm_ex d 205 7 [.ref a0, .int x1, .int x2, .null] [.int p0] S =
    if p0 = nI 0 then mm_ex d 205 10 [.ref a0, .int x1, .int x2, .null] [] S else mm_ex d 205 13 [.ref a0, .int x1, .int x2, .null] [] S :=
  (mx_ine t205 d205_7 (tgt := 13) (by decide))
theorem b205_10 {d : Nat} {S : mm_S} {a0 : Nat} {x1 : Int32} {x2 : Int32} : mm_ex d 205 10 [.ref a0, .int x1, .int x2, .null] [] S =
    some (some (.int (-2)), S) :=
  Eq.trans (mx_bipush t205 d205_10 (v := -2) rfl) <|
  (mx_iret t205 d205_12 (ty := .int) rfl rfl (fun h => nomatch h))
theorem b205_13 {d : Nat} {S : mm_S} {a0 : Nat} {x1 : Int32} {x2 : Int32} (h0 : mm_rk S a0 = 12) : mm_ex (d + 1) 205 13 [.ref a0, .int x1, .int x2, .null] [] S =
    mm_bd (mm_cl d 129 [.ref a0, .int x1] S) (fun v S2 => mm_ex (d + 1) 205 18 [.ref a0, .int x1, .int x2, .null] (v.toList ++ []) S2) :=
  Eq.trans (mx_aload_n t205 d205_13 (x := a0) rfl) <|
  Eq.trans (mx_iload_n t205 d205_14 (x := x1) rfl) <|
  (mx_virt (st := []) (k := 12) t205 [.int x1] d205_15 vt12_169 rfl rfl (Nat.le_of_ble_eq_true rfl) (Nat.le_of_ble_eq_true rfl) h0)
theorem b205_18 {d : Nat} {S : mm_S} {a0 : Nat} {x1 : Int32} {x2 : Int32} {p0 : Int32} : mm_ex d 205 18 [.ref a0, .int x1, .int x2, .null] [.int p0] S =
    if p0 = nI 0 then mm_ex d 205 21 [.ref a0, .int x1, .int x2, .null] [] S else mm_ex d 205 24 [.ref a0, .int x1, .int x2, .null] [] S :=
  (mx_ine t205 d205_18 (tgt := 24) (by decide))
theorem b205_21 {d : Nat} {S : mm_S} {a0 : Nat} {x1 : Int32} {x2 : Int32} : mm_ex d 205 21 [.ref a0, .int x1, .int x2, .null] [] S =
    some (some (.int (-11)), S) :=
  Eq.trans (mx_bipush t205 d205_21 (v := -11) rfl) <|
  (mx_iret t205 d205_23 (ty := .int) rfl rfl (fun h => nomatch h))
theorem b205_24 {d : Nat} {S : mm_S} {a0 : Nat} {x1 : Int32} {x2 : Int32} (h0 : mm_obj S a0 12 = true) (h1 : (mm_R S a0 1).isSome = true) (h2 : mm_inb x1 (mm_N S (mm_rg S a0 1)) = true) (h3 : mm_arr S (mm_rg S a0 1) 13 = true) : mm_ex d 205 24 [.ref a0, .int x1, .int x2, .null] [] S =
    mm_ex d 205 31 [.ref a0, .int x1, .int x2, .int (mm_M S (mm_rg S a0 1) (x1).toNatClampNeg)] [] S :=
  Eq.trans (mx_aload_n t205 d205_24 (x := a0) rfl) <|
  Eq.trans (mx_getR t205 d205_25 rfl fl12_9 h0 h1) <|
  Eq.trans (mx_iload_n t205 d205_28 (x := x1) rfl) <|
  Eq.trans (mx_iald t205 d205_29 h3 h2) <|
  (mx_istore_n t205 d205_30 (ls' := [.ref a0, .int x1, .int x2, .int (mm_M S (mm_rg S a0 1) (x1).toNatClampNeg)]) rfl rfl)
theorem b205_31 {d : Nat} {S : mm_S} {a0 : Nat} {x1 : Int32} {x2 : Int32} {x3 : Int32} : mm_ex d 205 31 [.ref a0, .int x1, .int x2, .int x3] [] S =
    if x3 = x2 then mm_ex d 205 49 [.ref a0, .int x1, .int x2, .int x3] [] S else mm_ex d 205 36 [.ref a0, .int x1, .int x2, .int x3] [] S :=
  Eq.trans (mx_iload_n t205 d205_31 (x := x3) rfl) <|
  Eq.trans (mx_iload_n t205 d205_32 (x := x2) rfl) <|
  (mx_ceq t205 d205_33 (tgt := 49) (by decide))
theorem b205_36 {d : Nat} {S : mm_S} {a0 : Nat} {x1 : Int32} {x2 : Int32} {x3 : Int32} : mm_ex d 205 36 [.ref a0, .int x1, .int x2, .int x3] [] S =
    if x3 = (-1) then mm_ex d 205 49 [.ref a0, .int x1, .int x2, .int x3] [] S else mm_ex d 205 41 [.ref a0, .int x1, .int x2, .int x3] [] S :=
  Eq.trans (mx_iload_n t205 d205_36 (x := x3) rfl) <|
  Eq.trans (mx_iconst t205 d205_37 (v := -1) rfl) <|
  (mx_ceq t205 d205_38 (tgt := 49) (by decide))
theorem b205_41 {d : Nat} {S : mm_S} {a0 : Nat} {x1 : Int32} {x2 : Int32} {x3 : Int32} : mm_ex (d + 1) 205 41 [.ref a0, .int x1, .int x2, .int x3] [] S =
    mm_bd (mm_cl d 199 [.int x3] S) (fun v S2 => mm_ex (d + 1) 205 45 [.ref a0, .int x1, .int x2, .int x3] (v.toList ++ []) S2) :=
  Eq.trans (mx_iload_n t205 d205_41 (x := x3) rfl) <|
  (mx_stat (st := []) t205 [.int x3] d205_42 acn12_392 mxn12_392 st12_392 rfl (Nat.le_of_ble_eq_true rfl) (Nat.le_of_ble_eq_true rfl))
theorem b205_45 {d : Nat} {S : mm_S} {a0 : Nat} {x1 : Int32} {x2 : Int32} {x3 : Int32} {p0 : Int32} : mm_ex d 205 45 [.ref a0, .int x1, .int x2, .int x3] [.int p0] S =
    mm_ex d 205 31 [.ref a0, .int x1, .int x2, .int p0] [] S :=
  Eq.trans (mx_istore_n t205 d205_45 (ls' := [.ref a0, .int x1, .int x2, .int p0]) rfl rfl) <|
  (mx_goto t205 d205_46 (tgt := 31) (by decide))
theorem b205_49 {d : Nat} {S : mm_S} {a0 : Nat} {x1 : Int32} {x2 : Int32} {x3 : Int32} : mm_ex d 205 49 [.ref a0, .int x1, .int x2, .int x3] [] S =
    if x3 = (-1) then mm_ex d 205 54 [.ref a0, .int x1, .int x2, .int x3] [] S else mm_ex d 205 59 [.ref a0, .int x1, .int x2, .int x3] [] S :=
  Eq.trans (mx_iload_n t205 d205_49 (x := x3) rfl) <|
  Eq.trans (mx_iconst t205 d205_50 (v := -1) rfl) <|
  (mx_cne t205 d205_51 (tgt := 59) (by decide))
theorem b205_54 {d : Nat} {S : mm_S} {a0 : Nat} {x1 : Int32} {x2 : Int32} {x3 : Int32} : mm_ex d 205 54 [.ref a0, .int x1, .int x2, .int x3] [] S =
    some (some (.int (-12)), S) :=
  Eq.trans (mx_bipush t205 d205_54 (v := -12) rfl) <|
  Eq.trans (mx_goto t205 d205_56 (tgt := 65) (by decide)) <|
  (mx_iret t205 d205_65 (ty := .int) rfl rfl (fun h => nomatch h))
theorem b205_59 {d : Nat} {S : mm_S} {a0 : Nat} {x1 : Int32} {x2 : Int32} {x3 : Int32} (h0 : mm_obj S a0 12 = true) (h1 : (mm_R S a0 1).isSome = true) (h2 : mm_inb x1 (mm_N S (mm_rg S a0 1)) = true) (h3 : mm_arr S (mm_rg S a0 1) 13 = true) : mm_ex d 205 59 [.ref a0, .int x1, .int x2, .int x3] [] S =
    some (some (.int (mm_M S (mm_rg S a0 1) (x1).toNatClampNeg)), S) :=
  Eq.trans (mx_aload_n t205 d205_59 (x := a0) rfl) <|
  Eq.trans (mx_getR t205 d205_60 rfl fl12_9 h0 h1) <|
  Eq.trans (mx_iload_n t205 d205_63 (x := x1) rfl) <|
  Eq.trans (mx_iald t205 d205_64 h3 h2) <|
  (mx_iret t205 d205_65 (ty := .int) rfl rfl (fun h => nomatch h))
theorem e205 {d : Nat} {S : mm_S} {a0 : Nat} {x1 : Int32} {x2 : Int32} : mm_cl d 205 [.ref a0, .int x1, .int x2] S = mm_ex d 205 0 [.ref a0, .int x1, .int x2, .null] [] S := mm_cl_eq t205 (Nat.le_of_ble_eq_true rfl) rfl
/-! X12_count -/
theorem dd206_0 : (decode prog_14_method_81_code 0 = .ok (.iload_n 1, 1)) ∧ (decode prog_14_method_81_code 1 = .ok (.ifCond .ne 10, 3)) ∧ (decode prog_14_method_81_code 4 = .ok (.aload_n 0, 1)) ∧ (decode prog_14_method_81_code 5 = .ok (.getfield 159, 3)) ∧ (decode prog_14_method_81_code 8 = .ok (.goto 53, 3)) ∧ (decode prog_14_method_81_code 11 = .ok (.iload_n 1, 1)) ∧ (decode prog_14_method_81_code 12 = .ok (.iconst 1, 1)) ∧ (decode prog_14_method_81_code 13 = .ok (.if_icmp .ne 10, 3)) ∧ (decode prog_14_method_81_code 16 = .ok (.aload_n 0, 1)) ∧ (decode prog_14_method_81_code 17 = .ok (.getfield 237, 3)) ∧ (decode prog_14_method_81_code 20 = .ok (.goto 41, 3)) ∧ (decode prog_14_method_81_code 23 = .ok (.iload_n 1, 1)) ∧ (decode prog_14_method_81_code 24 = .ok (.iconst 2, 1)) ∧ (decode prog_14_method_81_code 25 = .ok (.if_icmp .ne 10, 3)) ∧ (decode prog_14_method_81_code 28 = .ok (.aload_n 0, 1)) ∧ (decode prog_14_method_81_code 29 = .ok (.getfield 365, 3)) := by decide +kernel
theorem d206_0 : decode prog_14_method_81_code 0 = .ok (.iload_n 1, 1) := dd206_0.1
theorem d206_1 : decode prog_14_method_81_code 1 = .ok (.ifCond .ne 10, 3) := dd206_0.2.1
theorem d206_4 : decode prog_14_method_81_code 4 = .ok (.aload_n 0, 1) := dd206_0.2.2.1
theorem d206_5 : decode prog_14_method_81_code 5 = .ok (.getfield 159, 3) := dd206_0.2.2.2.1
theorem d206_8 : decode prog_14_method_81_code 8 = .ok (.goto 53, 3) := dd206_0.2.2.2.2.1
theorem d206_11 : decode prog_14_method_81_code 11 = .ok (.iload_n 1, 1) := dd206_0.2.2.2.2.2.1
theorem d206_12 : decode prog_14_method_81_code 12 = .ok (.iconst 1, 1) := dd206_0.2.2.2.2.2.2.1
theorem d206_13 : decode prog_14_method_81_code 13 = .ok (.if_icmp .ne 10, 3) := dd206_0.2.2.2.2.2.2.2.1
theorem d206_16 : decode prog_14_method_81_code 16 = .ok (.aload_n 0, 1) := dd206_0.2.2.2.2.2.2.2.2.1
theorem d206_17 : decode prog_14_method_81_code 17 = .ok (.getfield 237, 3) := dd206_0.2.2.2.2.2.2.2.2.2.1
theorem d206_20 : decode prog_14_method_81_code 20 = .ok (.goto 41, 3) := dd206_0.2.2.2.2.2.2.2.2.2.2.1
theorem d206_23 : decode prog_14_method_81_code 23 = .ok (.iload_n 1, 1) := dd206_0.2.2.2.2.2.2.2.2.2.2.2.1
theorem d206_24 : decode prog_14_method_81_code 24 = .ok (.iconst 2, 1) := dd206_0.2.2.2.2.2.2.2.2.2.2.2.2.1
theorem d206_25 : decode prog_14_method_81_code 25 = .ok (.if_icmp .ne 10, 3) := dd206_0.2.2.2.2.2.2.2.2.2.2.2.2.2.1
theorem d206_28 : decode prog_14_method_81_code 28 = .ok (.aload_n 0, 1) := dd206_0.2.2.2.2.2.2.2.2.2.2.2.2.2.2.1
theorem d206_29 : decode prog_14_method_81_code 29 = .ok (.getfield 365, 3) := dd206_0.2.2.2.2.2.2.2.2.2.2.2.2.2.2.2
theorem dd206_32 : (decode prog_14_method_81_code 32 = .ok (.goto 29, 3)) ∧ (decode prog_14_method_81_code 35 = .ok (.iload_n 1, 1)) ∧ (decode prog_14_method_81_code 36 = .ok (.iconst 3, 1)) ∧ (decode prog_14_method_81_code 37 = .ok (.if_icmp .ne 10, 3)) ∧ (decode prog_14_method_81_code 40 = .ok (.aload_n 0, 1)) ∧ (decode prog_14_method_81_code 41 = .ok (.getfield 184, 3)) ∧ (decode prog_14_method_81_code 44 = .ok (.goto 17, 3)) ∧ (decode prog_14_method_81_code 47 = .ok (.iload_n 1, 1)) ∧ (decode prog_14_method_81_code 48 = .ok (.iconst 4, 1)) ∧ (decode prog_14_method_81_code 49 = .ok (.if_icmp .ne 10, 3)) ∧ (decode prog_14_method_81_code 52 = .ok (.aload_n 0, 1)) ∧ (decode prog_14_method_81_code 53 = .ok (.getfield 386, 3)) ∧ (decode prog_14_method_81_code 56 = .ok (.goto 5, 3)) ∧ (decode prog_14_method_81_code 59 = .ok (.bipush (-2), 2)) ∧ (decode prog_14_method_81_code 61 = .ok (.ireturn, 1)) := by decide +kernel
theorem d206_32 : decode prog_14_method_81_code 32 = .ok (.goto 29, 3) := dd206_32.1
theorem d206_35 : decode prog_14_method_81_code 35 = .ok (.iload_n 1, 1) := dd206_32.2.1
theorem d206_36 : decode prog_14_method_81_code 36 = .ok (.iconst 3, 1) := dd206_32.2.2.1
theorem d206_37 : decode prog_14_method_81_code 37 = .ok (.if_icmp .ne 10, 3) := dd206_32.2.2.2.1
theorem d206_40 : decode prog_14_method_81_code 40 = .ok (.aload_n 0, 1) := dd206_32.2.2.2.2.1
theorem d206_41 : decode prog_14_method_81_code 41 = .ok (.getfield 184, 3) := dd206_32.2.2.2.2.2.1
theorem d206_44 : decode prog_14_method_81_code 44 = .ok (.goto 17, 3) := dd206_32.2.2.2.2.2.2.1
theorem d206_47 : decode prog_14_method_81_code 47 = .ok (.iload_n 1, 1) := dd206_32.2.2.2.2.2.2.2.1
theorem d206_48 : decode prog_14_method_81_code 48 = .ok (.iconst 4, 1) := dd206_32.2.2.2.2.2.2.2.2.1
theorem d206_49 : decode prog_14_method_81_code 49 = .ok (.if_icmp .ne 10, 3) := dd206_32.2.2.2.2.2.2.2.2.2.1
theorem d206_52 : decode prog_14_method_81_code 52 = .ok (.aload_n 0, 1) := dd206_32.2.2.2.2.2.2.2.2.2.2.1
theorem d206_53 : decode prog_14_method_81_code 53 = .ok (.getfield 386, 3) := dd206_32.2.2.2.2.2.2.2.2.2.2.2.1
theorem d206_56 : decode prog_14_method_81_code 56 = .ok (.goto 5, 3) := dd206_32.2.2.2.2.2.2.2.2.2.2.2.2.1
theorem d206_59 : decode prog_14_method_81_code 59 = .ok (.bipush (-2), 2) := dd206_32.2.2.2.2.2.2.2.2.2.2.2.2.2.1
theorem d206_61 : decode prog_14_method_81_code 61 = .ok (.ireturn, 1) := dd206_32.2.2.2.2.2.2.2.2.2.2.2.2.2.2
theorem b206_0 {d : Nat} {S : mm_S} {a0 : Nat} {x1 : Int32} : mm_ex d 206 0 [.ref a0, .int x1] [] S =
    if x1 = nI 0 then mm_ex d 206 4 [.ref a0, .int x1] [] S else mm_ex d 206 11 [.ref a0, .int x1] [] S :=
  Eq.trans (mx_iload_n t206 d206_0 (x := x1) rfl) <|
  (mx_ine t206 d206_1 (tgt := 11) (by decide))
theorem b206_4 {d : Nat} {S : mm_S} {a0 : Nat} {x1 : Int32} (h0 : mm_obj S a0 12 = true) : mm_ex d 206 4 [.ref a0, .int x1] [] S =
    some (some (.int (mm_M S a0 0)), S) :=
  Eq.trans (mx_aload_n t206 d206_4 (x := a0) rfl) <|
  Eq.trans (mx_geti t206 d206_5 rfl fl12_159 h0) <|
  Eq.trans (mx_goto t206 d206_8 (tgt := 61) (by decide)) <|
  (mx_iret t206 d206_61 (ty := .int) rfl rfl (fun h => nomatch h))
theorem b206_11 {d : Nat} {S : mm_S} {a0 : Nat} {x1 : Int32} : mm_ex d 206 11 [.ref a0, .int x1] [] S =
    if x1 = (nI 1) then mm_ex d 206 16 [.ref a0, .int x1] [] S else mm_ex d 206 23 [.ref a0, .int x1] [] S :=
  Eq.trans (mx_iload_n t206 d206_11 (x := x1) rfl) <|
  Eq.trans (mx_iconst t206 d206_12 (v := nI 1) rfl) <|
  (mx_cne t206 d206_13 (tgt := 23) (by decide))
theorem b206_16 {d : Nat} {S : mm_S} {a0 : Nat} {x1 : Int32} (h0 : mm_obj S a0 12 = true) : mm_ex d 206 16 [.ref a0, .int x1] [] S =
    some (some (.int (mm_M S a0 17)), S) :=
  Eq.trans (mx_aload_n t206 d206_16 (x := a0) rfl) <|
  Eq.trans (mx_geti t206 d206_17 rfl fl12_237 h0) <|
  Eq.trans (mx_goto t206 d206_20 (tgt := 61) (by decide)) <|
  (mx_iret t206 d206_61 (ty := .int) rfl rfl (fun h => nomatch h))
theorem b206_23 {d : Nat} {S : mm_S} {a0 : Nat} {x1 : Int32} : mm_ex d 206 23 [.ref a0, .int x1] [] S =
    if x1 = (nI 2) then mm_ex d 206 28 [.ref a0, .int x1] [] S else mm_ex d 206 35 [.ref a0, .int x1] [] S :=
  Eq.trans (mx_iload_n t206 d206_23 (x := x1) rfl) <|
  Eq.trans (mx_iconst t206 d206_24 (v := nI 2) rfl) <|
  (mx_cne t206 d206_25 (tgt := 35) (by decide))
theorem b206_28 {d : Nat} {S : mm_S} {a0 : Nat} {x1 : Int32} (h0 : mm_obj S a0 12 = true) : mm_ex d 206 28 [.ref a0, .int x1] [] S =
    some (some (.int (mm_M S a0 15)), S) :=
  Eq.trans (mx_aload_n t206 d206_28 (x := a0) rfl) <|
  Eq.trans (mx_geti t206 d206_29 rfl fl12_365 h0) <|
  Eq.trans (mx_goto t206 d206_32 (tgt := 61) (by decide)) <|
  (mx_iret t206 d206_61 (ty := .int) rfl rfl (fun h => nomatch h))
theorem b206_35 {d : Nat} {S : mm_S} {a0 : Nat} {x1 : Int32} : mm_ex d 206 35 [.ref a0, .int x1] [] S =
    if x1 = (nI 3) then mm_ex d 206 40 [.ref a0, .int x1] [] S else mm_ex d 206 47 [.ref a0, .int x1] [] S :=
  Eq.trans (mx_iload_n t206 d206_35 (x := x1) rfl) <|
  Eq.trans (mx_iconst t206 d206_36 (v := nI 3) rfl) <|
  (mx_cne t206 d206_37 (tgt := 47) (by decide))
theorem b206_40 {d : Nat} {S : mm_S} {a0 : Nat} {x1 : Int32} (h0 : mm_obj S a0 12 = true) : mm_ex d 206 40 [.ref a0, .int x1] [] S =
    some (some (.int (mm_M S a0 26)), S) :=
  Eq.trans (mx_aload_n t206 d206_40 (x := a0) rfl) <|
  Eq.trans (mx_geti t206 d206_41 rfl fl12_184 h0) <|
  Eq.trans (mx_goto t206 d206_44 (tgt := 61) (by decide)) <|
  (mx_iret t206 d206_61 (ty := .int) rfl rfl (fun h => nomatch h))
theorem b206_47 {d : Nat} {S : mm_S} {a0 : Nat} {x1 : Int32} : mm_ex d 206 47 [.ref a0, .int x1] [] S =
    if x1 = (nI 4) then mm_ex d 206 52 [.ref a0, .int x1] [] S else mm_ex d 206 59 [.ref a0, .int x1] [] S :=
  Eq.trans (mx_iload_n t206 d206_47 (x := x1) rfl) <|
  Eq.trans (mx_iconst t206 d206_48 (v := nI 4) rfl) <|
  (mx_cne t206 d206_49 (tgt := 59) (by decide))
theorem b206_52 {d : Nat} {S : mm_S} {a0 : Nat} {x1 : Int32} (h0 : mm_obj S a0 12 = true) : mm_ex d 206 52 [.ref a0, .int x1] [] S =
    some (some (.int (mm_M S a0 28)), S) :=
  Eq.trans (mx_aload_n t206 d206_52 (x := a0) rfl) <|
  Eq.trans (mx_geti t206 d206_53 rfl fl12_386 h0) <|
  Eq.trans (mx_goto t206 d206_56 (tgt := 61) (by decide)) <|
  (mx_iret t206 d206_61 (ty := .int) rfl rfl (fun h => nomatch h))
theorem b206_59 {d : Nat} {S : mm_S} {a0 : Nat} {x1 : Int32} : mm_ex d 206 59 [.ref a0, .int x1] [] S =
    some (some (.int (-2)), S) :=
  Eq.trans (mx_bipush t206 d206_59 (v := -2) rfl) <|
  (mx_iret t206 d206_61 (ty := .int) rfl rfl (fun h => nomatch h))
theorem e206 {d : Nat} {S : mm_S} {a0 : Nat} {x1 : Int32} : mm_cl d 206 [.ref a0, .int x1] S = mm_ex d 206 0 [.ref a0, .int x1] [] S := mm_cl_eq t206 (Nat.le_of_ble_eq_true rfl) rfl
/-! X12_tape -/
theorem dd207_0 : (decode prog_14_method_82_code 0 = .ok (.aload_n 0, 1)) ∧ (decode prog_14_method_82_code 1 = .ok (.iload_n 1, 1)) ∧ (decode prog_14_method_82_code 2 = .ok (.invokevirtual 368, 3)) ∧ (decode prog_14_method_82_code 5 = .ok (.ifCond .ne 5, 3)) ∧ (decode prog_14_method_82_code 8 = .ok (.iconst (-1), 1)) ∧ (decode prog_14_method_82_code 9 = .ok (.ireturn, 1)) ∧ (decode prog_14_method_82_code 10 = .ok (.iload_n 2, 1)) ∧ (decode prog_14_method_82_code 11 = .ok (.iconst (-1), 1)) ∧ (decode prog_14_method_82_code 12 = .ok (.iconst 4, 1)) ∧ (decode prog_14_method_82_code 13 = .ok (.invokestatic 162, 3)) ∧ (decode prog_14_method_82_code 16 = .ok (.ifCond .eq 13, 3)) ∧ (decode prog_14_method_82_code 19 = .ok (.iload_n 2, 1)) ∧ (decode prog_14_method_82_code 20 = .ok (.ifCond .lt 12, 3)) ∧ (decode prog_14_method_82_code 23 = .ok (.iload_n 3, 1)) ∧ (decode prog_14_method_82_code 24 = .ok (.bipush 60, 2)) ∧ (decode prog_14_method_82_code 26 = .ok (.if_icmp .le 6, 3)) := by decide +kernel
theorem d207_0 : decode prog_14_method_82_code 0 = .ok (.aload_n 0, 1) := dd207_0.1
theorem d207_1 : decode prog_14_method_82_code 1 = .ok (.iload_n 1, 1) := dd207_0.2.1
theorem d207_2 : decode prog_14_method_82_code 2 = .ok (.invokevirtual 368, 3) := dd207_0.2.2.1
theorem d207_5 : decode prog_14_method_82_code 5 = .ok (.ifCond .ne 5, 3) := dd207_0.2.2.2.1
theorem d207_8 : decode prog_14_method_82_code 8 = .ok (.iconst (-1), 1) := dd207_0.2.2.2.2.1
theorem d207_9 : decode prog_14_method_82_code 9 = .ok (.ireturn, 1) := dd207_0.2.2.2.2.2.1
theorem d207_10 : decode prog_14_method_82_code 10 = .ok (.iload_n 2, 1) := dd207_0.2.2.2.2.2.2.1
theorem d207_11 : decode prog_14_method_82_code 11 = .ok (.iconst (-1), 1) := dd207_0.2.2.2.2.2.2.2.1
theorem d207_12 : decode prog_14_method_82_code 12 = .ok (.iconst 4, 1) := dd207_0.2.2.2.2.2.2.2.2.1
theorem d207_13 : decode prog_14_method_82_code 13 = .ok (.invokestatic 162, 3) := dd207_0.2.2.2.2.2.2.2.2.2.1
theorem d207_16 : decode prog_14_method_82_code 16 = .ok (.ifCond .eq 13, 3) := dd207_0.2.2.2.2.2.2.2.2.2.2.1
theorem d207_19 : decode prog_14_method_82_code 19 = .ok (.iload_n 2, 1) := dd207_0.2.2.2.2.2.2.2.2.2.2.2.1
theorem d207_20 : decode prog_14_method_82_code 20 = .ok (.ifCond .lt 12, 3) := dd207_0.2.2.2.2.2.2.2.2.2.2.2.2.1
theorem d207_23 : decode prog_14_method_82_code 23 = .ok (.iload_n 3, 1) := dd207_0.2.2.2.2.2.2.2.2.2.2.2.2.2.1
theorem d207_24 : decode prog_14_method_82_code 24 = .ok (.bipush 60, 2) := dd207_0.2.2.2.2.2.2.2.2.2.2.2.2.2.2.1
theorem d207_26 : decode prog_14_method_82_code 26 = .ok (.if_icmp .le 6, 3) := dd207_0.2.2.2.2.2.2.2.2.2.2.2.2.2.2.2
theorem dd207_29 : (decode prog_14_method_82_code 29 = .ok (.bipush (-2), 2)) ∧ (decode prog_14_method_82_code 31 = .ok (.ireturn, 1)) ∧ (decode prog_14_method_82_code 32 = .ok (.iload_n 2, 1)) ∧ (decode prog_14_method_82_code 33 = .ok (.ifCond .lt 10, 3)) ∧ (decode prog_14_method_82_code 36 = .ok (.iload_n 3, 1)) ∧ (decode prog_14_method_82_code 37 = .ok (.ifCond .ge 6, 3)) ∧ (decode prog_14_method_82_code 40 = .ok (.bipush (-14), 2)) ∧ (decode prog_14_method_82_code 42 = .ok (.ireturn, 1)) ∧ (decode prog_14_method_82_code 43 = .ok (.aload_n 0, 1)) ∧ (decode prog_14_method_82_code 44 = .ok (.getfield 76, 3)) ∧ (decode prog_14_method_82_code 47 = .ok (.iload_n 1, 1)) ∧ (decode prog_14_method_82_code 48 = .ok (.iload_n 2, 1)) ∧ (decode prog_14_method_82_code 49 = .ok (.iastore, 1)) ∧ (decode prog_14_method_82_code 50 = .ok (.aload_n 0, 1)) ∧ (decode prog_14_method_82_code 51 = .ok (.getfield 79, 3)) ∧ (decode prog_14_method_82_code 54 = .ok (.iload_n 1, 1)) := by decide +kernel
theorem d207_29 : decode prog_14_method_82_code 29 = .ok (.bipush (-2), 2) := dd207_29.1
theorem d207_31 : decode prog_14_method_82_code 31 = .ok (.ireturn, 1) := dd207_29.2.1
theorem d207_32 : decode prog_14_method_82_code 32 = .ok (.iload_n 2, 1) := dd207_29.2.2.1
theorem d207_33 : decode prog_14_method_82_code 33 = .ok (.ifCond .lt 10, 3) := dd207_29.2.2.2.1
theorem d207_36 : decode prog_14_method_82_code 36 = .ok (.iload_n 3, 1) := dd207_29.2.2.2.2.1
theorem d207_37 : decode prog_14_method_82_code 37 = .ok (.ifCond .ge 6, 3) := dd207_29.2.2.2.2.2.1
theorem d207_40 : decode prog_14_method_82_code 40 = .ok (.bipush (-14), 2) := dd207_29.2.2.2.2.2.2.1
theorem d207_42 : decode prog_14_method_82_code 42 = .ok (.ireturn, 1) := dd207_29.2.2.2.2.2.2.2.1
theorem d207_43 : decode prog_14_method_82_code 43 = .ok (.aload_n 0, 1) := dd207_29.2.2.2.2.2.2.2.2.1
theorem d207_44 : decode prog_14_method_82_code 44 = .ok (.getfield 76, 3) := dd207_29.2.2.2.2.2.2.2.2.2.1
theorem d207_47 : decode prog_14_method_82_code 47 = .ok (.iload_n 1, 1) := dd207_29.2.2.2.2.2.2.2.2.2.2.1
theorem d207_48 : decode prog_14_method_82_code 48 = .ok (.iload_n 2, 1) := dd207_29.2.2.2.2.2.2.2.2.2.2.2.1
theorem d207_49 : decode prog_14_method_82_code 49 = .ok (.iastore, 1) := dd207_29.2.2.2.2.2.2.2.2.2.2.2.2.1
theorem d207_50 : decode prog_14_method_82_code 50 = .ok (.aload_n 0, 1) := dd207_29.2.2.2.2.2.2.2.2.2.2.2.2.2.1
theorem d207_51 : decode prog_14_method_82_code 51 = .ok (.getfield 79, 3) := dd207_29.2.2.2.2.2.2.2.2.2.2.2.2.2.2.1
theorem d207_54 : decode prog_14_method_82_code 54 = .ok (.iload_n 1, 1) := dd207_29.2.2.2.2.2.2.2.2.2.2.2.2.2.2.2
theorem dd207_55 : (decode prog_14_method_82_code 55 = .ok (.iload_n 2, 1)) ∧ (decode prog_14_method_82_code 56 = .ok (.ifCond .ge 7, 3)) ∧ (decode prog_14_method_82_code 59 = .ok (.iconst 0, 1)) ∧ (decode prog_14_method_82_code 60 = .ok (.goto 4, 3)) ∧ (decode prog_14_method_82_code 63 = .ok (.iload_n 3, 1)) ∧ (decode prog_14_method_82_code 64 = .ok (.iastore, 1)) ∧ (decode prog_14_method_82_code 65 = .ok (.iconst 0, 1)) ∧ (decode prog_14_method_82_code 66 = .ok (.istore 4, 2)) ∧ (decode prog_14_method_82_code 68 = .ok (.iload 4, 2)) ∧ (decode prog_14_method_82_code 70 = .ok (.bipush 60, 2)) ∧ (decode prog_14_method_82_code 72 = .ok (.if_icmp .ge 22, 3)) ∧ (decode prog_14_method_82_code 75 = .ok (.aload_n 0, 1)) ∧ (decode prog_14_method_82_code 76 = .ok (.getfield 82, 3)) ∧ (decode prog_14_method_82_code 79 = .ok (.bipush 60, 2)) ∧ (decode prog_14_method_82_code 81 = .ok (.iload_n 1, 1)) ∧ (decode prog_14_method_82_code 82 = .ok (.imul, 1)) := by decide +kernel
theorem d207_55 : decode prog_14_method_82_code 55 = .ok (.iload_n 2, 1) := dd207_55.1
theorem d207_56 : decode prog_14_method_82_code 56 = .ok (.ifCond .ge 7, 3) := dd207_55.2.1
theorem d207_59 : decode prog_14_method_82_code 59 = .ok (.iconst 0, 1) := dd207_55.2.2.1
theorem d207_60 : decode prog_14_method_82_code 60 = .ok (.goto 4, 3) := dd207_55.2.2.2.1
theorem d207_63 : decode prog_14_method_82_code 63 = .ok (.iload_n 3, 1) := dd207_55.2.2.2.2.1
theorem d207_64 : decode prog_14_method_82_code 64 = .ok (.iastore, 1) := dd207_55.2.2.2.2.2.1
theorem d207_65 : decode prog_14_method_82_code 65 = .ok (.iconst 0, 1) := dd207_55.2.2.2.2.2.2.1
theorem d207_66 : decode prog_14_method_82_code 66 = .ok (.istore 4, 2) := dd207_55.2.2.2.2.2.2.2.1
theorem d207_68 : decode prog_14_method_82_code 68 = .ok (.iload 4, 2) := dd207_55.2.2.2.2.2.2.2.2.1
theorem d207_70 : decode prog_14_method_82_code 70 = .ok (.bipush 60, 2) := dd207_55.2.2.2.2.2.2.2.2.2.1
theorem d207_72 : decode prog_14_method_82_code 72 = .ok (.if_icmp .ge 22, 3) := dd207_55.2.2.2.2.2.2.2.2.2.2.1
theorem d207_75 : decode prog_14_method_82_code 75 = .ok (.aload_n 0, 1) := dd207_55.2.2.2.2.2.2.2.2.2.2.2.1
theorem d207_76 : decode prog_14_method_82_code 76 = .ok (.getfield 82, 3) := dd207_55.2.2.2.2.2.2.2.2.2.2.2.2.1
theorem d207_79 : decode prog_14_method_82_code 79 = .ok (.bipush 60, 2) := dd207_55.2.2.2.2.2.2.2.2.2.2.2.2.2.1
theorem d207_81 : decode prog_14_method_82_code 81 = .ok (.iload_n 1, 1) := dd207_55.2.2.2.2.2.2.2.2.2.2.2.2.2.2.1
theorem d207_82 : decode prog_14_method_82_code 82 = .ok (.imul, 1) := dd207_55.2.2.2.2.2.2.2.2.2.2.2.2.2.2.2
theorem dd207_83 : (decode prog_14_method_82_code 83 = .ok (.iload 4, 2)) ∧ (decode prog_14_method_82_code 85 = .ok (.iadd, 1)) ∧ (decode prog_14_method_82_code 86 = .ok (.lconst 0, 1)) ∧ (decode prog_14_method_82_code 87 = .ok (.lastore, 1)) ∧ (decode prog_14_method_82_code 88 = .ok (.iinc 4 1, 3)) ∧ (decode prog_14_method_82_code 91 = .ok (.goto (-23), 3)) ∧ (decode prog_14_method_82_code 94 = .ok (.iconst 1, 1)) ∧ (decode prog_14_method_82_code 95 = .ok (.ireturn, 1)) := by decide +kernel
theorem d207_83 : decode prog_14_method_82_code 83 = .ok (.iload 4, 2) := dd207_83.1
theorem d207_85 : decode prog_14_method_82_code 85 = .ok (.iadd, 1) := dd207_83.2.1
theorem d207_86 : decode prog_14_method_82_code 86 = .ok (.lconst 0, 1) := dd207_83.2.2.1
theorem d207_87 : decode prog_14_method_82_code 87 = .ok (.lastore, 1) := dd207_83.2.2.2.1
theorem d207_88 : decode prog_14_method_82_code 88 = .ok (.iinc 4 1, 3) := dd207_83.2.2.2.2.1
theorem d207_91 : decode prog_14_method_82_code 91 = .ok (.goto (-23), 3) := dd207_83.2.2.2.2.2.1
theorem d207_94 : decode prog_14_method_82_code 94 = .ok (.iconst 1, 1) := dd207_83.2.2.2.2.2.2.1
theorem d207_95 : decode prog_14_method_82_code 95 = .ok (.ireturn, 1) := dd207_83.2.2.2.2.2.2.2
theorem b207_0 {d : Nat} {S : mm_S} {a0 : Nat} {x1 : Int32} {x2 : Int32} {x3 : Int32} (h0 : mm_rk S a0 = 12) : mm_ex (d + 1) 207 0 [.ref a0, .int x1, .int x2, .int x3, .null] [] S =
    mm_bd (mm_cl d 194 [.ref a0, .int x1] S) (fun v S2 => mm_ex (d + 1) 207 5 [.ref a0, .int x1, .int x2, .int x3, .null] (v.toList ++ []) S2) :=
  Eq.trans (mx_aload_n t207 d207_0 (x := a0) rfl) <|
  Eq.trans (mx_iload_n t207 d207_1 (x := x1) rfl) <|
  (mx_virt (st := []) (k := 12) t207 [.int x1] d207_2 vt12_368 rfl rfl (Nat.le_of_ble_eq_true rfl) (Nat.le_of_ble_eq_true rfl) h0)
theorem b207_5 {d : Nat} {S : mm_S} {a0 : Nat} {x1 : Int32} {x2 : Int32} {x3 : Int32} {p0 : Int32} : mm_ex d 207 5 [.ref a0, .int x1, .int x2, .int x3, .null] [.int p0] S =
    if p0 = nI 0 then mm_ex d 207 8 [.ref a0, .int x1, .int x2, .int x3, .null] [] S else mm_ex d 207 10 [.ref a0, .int x1, .int x2, .int x3, .null] [] S :=
  (mx_ine t207 d207_5 (tgt := 10) (by decide))
theorem b207_8 {d : Nat} {S : mm_S} {a0 : Nat} {x1 : Int32} {x2 : Int32} {x3 : Int32} : mm_ex d 207 8 [.ref a0, .int x1, .int x2, .int x3, .null] [] S =
    some (some (.int (-1)), S) :=
  Eq.trans (mx_iconst t207 d207_8 (v := -1) rfl) <|
  (mx_iret t207 d207_9 (ty := .int) rfl rfl (fun h => nomatch h))
theorem b207_10 {d : Nat} {S : mm_S} {a0 : Nat} {x1 : Int32} {x2 : Int32} {x3 : Int32} : mm_ex (d + 1) 207 10 [.ref a0, .int x1, .int x2, .int x3, .null] [] S =
    mm_bd (mm_cl d 128 [.int x2, .int (-1), .int (nI 4)] S) (fun v S2 => mm_ex (d + 1) 207 16 [.ref a0, .int x1, .int x2, .int x3, .null] (v.toList ++ []) S2) :=
  Eq.trans (mx_iload_n t207 d207_10 (x := x2) rfl) <|
  Eq.trans (mx_iconst t207 d207_11 (v := -1) rfl) <|
  Eq.trans (mx_iconst t207 d207_12 (v := nI 4) rfl) <|
  (mx_stat (st := []) t207 [.int x2, .int (-1), .int (nI 4)] d207_13 acn12_162 mxn12_162 st12_162 rfl (Nat.le_of_ble_eq_true rfl) (Nat.le_of_ble_eq_true rfl))
theorem b207_16 {d : Nat} {S : mm_S} {a0 : Nat} {x1 : Int32} {x2 : Int32} {x3 : Int32} {p0 : Int32} : mm_ex d 207 16 [.ref a0, .int x1, .int x2, .int x3, .null] [.int p0] S =
    if p0 = nI 0 then mm_ex d 207 29 [.ref a0, .int x1, .int x2, .int x3, .null] [] S else mm_ex d 207 19 [.ref a0, .int x1, .int x2, .int x3, .null] [] S :=
  (mx_ieq t207 d207_16 (tgt := 29) (by decide))
theorem b207_19 {d : Nat} {S : mm_S} {a0 : Nat} {x1 : Int32} {x2 : Int32} {x3 : Int32} : mm_ex d 207 19 [.ref a0, .int x1, .int x2, .int x3, .null] [] S =
    if x2 < nI 0 then mm_ex d 207 32 [.ref a0, .int x1, .int x2, .int x3, .null] [] S else mm_ex d 207 23 [.ref a0, .int x1, .int x2, .int x3, .null] [] S :=
  Eq.trans (mx_iload_n t207 d207_19 (x := x2) rfl) <|
  (mx_ilt t207 d207_20 (tgt := 32) (by decide))
theorem b207_23 {d : Nat} {S : mm_S} {a0 : Nat} {x1 : Int32} {x2 : Int32} {x3 : Int32} : mm_ex d 207 23 [.ref a0, .int x1, .int x2, .int x3, .null] [] S =
    if x3 ≤ (nI 60) then mm_ex d 207 32 [.ref a0, .int x1, .int x2, .int x3, .null] [] S else mm_ex d 207 29 [.ref a0, .int x1, .int x2, .int x3, .null] [] S :=
  Eq.trans (mx_iload_n t207 d207_23 (x := x3) rfl) <|
  Eq.trans (mx_bipush t207 d207_24 (v := nI 60) rfl) <|
  (mx_cle t207 d207_26 (tgt := 32) (by decide))
theorem b207_29 {d : Nat} {S : mm_S} {a0 : Nat} {x1 : Int32} {x2 : Int32} {x3 : Int32} : mm_ex d 207 29 [.ref a0, .int x1, .int x2, .int x3, .null] [] S =
    some (some (.int (-2)), S) :=
  Eq.trans (mx_bipush t207 d207_29 (v := -2) rfl) <|
  (mx_iret t207 d207_31 (ty := .int) rfl rfl (fun h => nomatch h))
theorem b207_32 {d : Nat} {S : mm_S} {a0 : Nat} {x1 : Int32} {x2 : Int32} {x3 : Int32} : mm_ex d 207 32 [.ref a0, .int x1, .int x2, .int x3, .null] [] S =
    if x2 < nI 0 then mm_ex d 207 43 [.ref a0, .int x1, .int x2, .int x3, .null] [] S else mm_ex d 207 36 [.ref a0, .int x1, .int x2, .int x3, .null] [] S :=
  Eq.trans (mx_iload_n t207 d207_32 (x := x2) rfl) <|
  (mx_ilt t207 d207_33 (tgt := 43) (by decide))
theorem b207_36 {d : Nat} {S : mm_S} {a0 : Nat} {x1 : Int32} {x2 : Int32} {x3 : Int32} : mm_ex d 207 36 [.ref a0, .int x1, .int x2, .int x3, .null] [] S =
    if nI 0 ≤ x3 then mm_ex d 207 43 [.ref a0, .int x1, .int x2, .int x3, .null] [] S else mm_ex d 207 40 [.ref a0, .int x1, .int x2, .int x3, .null] [] S :=
  Eq.trans (mx_iload_n t207 d207_36 (x := x3) rfl) <|
  (mx_ige t207 d207_37 (tgt := 43) (by decide))
theorem b207_40 {d : Nat} {S : mm_S} {a0 : Nat} {x1 : Int32} {x2 : Int32} {x3 : Int32} : mm_ex d 207 40 [.ref a0, .int x1, .int x2, .int x3, .null] [] S =
    some (some (.int (-14)), S) :=
  Eq.trans (mx_bipush t207 d207_40 (v := -14) rfl) <|
  (mx_iret t207 d207_42 (ty := .int) rfl rfl (fun h => nomatch h))
theorem b207_43 {d : Nat} {S : mm_S} {a0 : Nat} {x1 : Int32} {x2 : Int32} {x3 : Int32} (h0 : mm_obj S a0 12 = true) (h1 : (mm_R S a0 30).isSome = true) (h2 : mm_arr S (mm_rg S a0 30) 13 = true) (h3 : mm_inb x1 (mm_N S (mm_rg S a0 30)) = true) (h4 : (mm_R S a0 31).isSome = true) : mm_ex d 207 43 [.ref a0, .int x1, .int x2, .int x3, .null] [] S =
    if nI 0 ≤ x2 then mm_ex d 207 63 [.ref a0, .int x1, .int x2, .int x3, .null] [.int x1, .ref (mm_rg S a0 31)] (mm_uM S (mm_rg S a0 30) (x1).toNatClampNeg x2) else mm_ex d 207 59 [.ref a0, .int x1, .int x2, .int x3, .null] [.int x1, .ref (mm_rg S a0 31)] (mm_uM S (mm_rg S a0 30) (x1).toNatClampNeg x2) :=
  Eq.trans (mx_aload_n t207 d207_43 (x := a0) rfl) <|
  Eq.trans (mx_getR t207 d207_44 rfl fl12_76 h0 h1) <|
  Eq.trans (mx_iload_n t207 d207_47 (x := x1) rfl) <|
  Eq.trans (mx_iload_n t207 d207_48 (x := x2) rfl) <|
  Eq.trans (mx_iast2 t207 d207_49 h2 h3) <|
  Eq.trans (mx_aload_n t207 d207_50 (x := a0) rfl) <|
  Eq.trans (mx_getR t207 d207_51 rfl fl12_79 h0 h4) <|
  Eq.trans (mx_iload_n t207 d207_54 (x := x1) rfl) <|
  Eq.trans (mx_iload_n t207 d207_55 (x := x2) rfl) <|
  (mx_ige t207 d207_56 (tgt := 63) (by decide))
theorem b207_59 {d : Nat} {S : mm_S} {a0 : Nat} {x1 : Int32} {x2 : Int32} {x3 : Int32} {p0 : Int32} {p1 : Nat} (h0 : mm_arr S p1 13 = true) (h1 : mm_inb p0 (mm_N S p1) = true) : mm_ex d 207 59 [.ref a0, .int x1, .int x2, .int x3, .null] [.int p0, .ref p1] S =
    mm_ex d 207 68 [.ref a0, .int x1, .int x2, .int x3, .int (nI 0)] [] (mm_uM S p1 (p0).toNatClampNeg (nI 0)) :=
  Eq.trans (mx_iconst t207 d207_59 (v := nI 0) rfl) <|
  Eq.trans (mx_goto t207 d207_60 (tgt := 64) (by decide)) <|
  Eq.trans (mx_iast2 t207 d207_64 h0 h1) <|
  Eq.trans (mx_iconst t207 d207_65 (v := nI 0) rfl) <|
  (mx_istore t207 d207_66 (ls' := [.ref a0, .int x1, .int x2, .int x3, .int (nI 0)]) rfl rfl)
theorem b207_63 {d : Nat} {S : mm_S} {a0 : Nat} {x1 : Int32} {x2 : Int32} {x3 : Int32} {p0 : Int32} {p1 : Nat} (h0 : mm_arr S p1 13 = true) (h1 : mm_inb p0 (mm_N S p1) = true) : mm_ex d 207 63 [.ref a0, .int x1, .int x2, .int x3, .null] [.int p0, .ref p1] S =
    mm_ex d 207 68 [.ref a0, .int x1, .int x2, .int x3, .int (nI 0)] [] (mm_uM S p1 (p0).toNatClampNeg x3) :=
  Eq.trans (mx_iload_n t207 d207_63 (x := x3) rfl) <|
  Eq.trans (mx_iast2 t207 d207_64 h0 h1) <|
  Eq.trans (mx_iconst t207 d207_65 (v := nI 0) rfl) <|
  (mx_istore t207 d207_66 (ls' := [.ref a0, .int x1, .int x2, .int x3, .int (nI 0)]) rfl rfl)
theorem b207_68 {d : Nat} {S : mm_S} {a0 : Nat} {x1 : Int32} {x2 : Int32} {x3 : Int32} {x4 : Int32} : mm_ex d 207 68 [.ref a0, .int x1, .int x2, .int x3, .int x4] [] S =
    if (nI 60) ≤ x4 then mm_ex d 207 94 [.ref a0, .int x1, .int x2, .int x3, .int x4] [] S else mm_ex d 207 75 [.ref a0, .int x1, .int x2, .int x3, .int x4] [] S :=
  Eq.trans (mx_iload t207 d207_68 (x := x4) rfl) <|
  Eq.trans (mx_bipush t207 d207_70 (v := nI 60) rfl) <|
  (mx_cge t207 d207_72 (tgt := 94) (by decide))
theorem b207_75 {d : Nat} {S : mm_S} {a0 : Nat} {x1 : Int32} {x2 : Int32} {x3 : Int32} {x4 : Int32} (h0 : mm_obj S a0 12 = true) (h1 : (mm_R S a0 32).isSome = true) (h2 : mm_arr S (mm_rg S a0 32) 14 = true) (h3 : mm_inb (((nI 60) * x1) + x4) (mm_N S (mm_rg S a0 32)) = true) : mm_ex d 207 75 [.ref a0, .int x1, .int x2, .int x3, .int x4] [] S =
    mm_ex d 207 68 [.ref a0, .int x1, .int x2, .int x3, .int (x4 + nI 1)] [] (mm_uL S (mm_rg S a0 32) (((nI 60) * x1) + x4).toNatClampNeg 0) :=
  Eq.trans (mx_aload_n t207 d207_75 (x := a0) rfl) <|
  Eq.trans (mx_getR t207 d207_76 rfl fl12_82 h0 h1) <|
  Eq.trans (mx_bipush t207 d207_79 (v := nI 60) rfl) <|
  Eq.trans (mx_iload_n t207 d207_81 (x := x1) rfl) <|
  Eq.trans (mx_imul t207 d207_82) <|
  Eq.trans (mx_iload t207 d207_83 (x := x4) rfl) <|
  Eq.trans (mx_iadd t207 d207_85) <|
  Eq.trans (mx_lconst t207 d207_86 (v := 0) rfl) <|
  Eq.trans (mx_last2 t207 d207_87 h2 h3) <|
  Eq.trans (mx_iinc t207 d207_88 (x := x4) (v := nI 1) (ls' := [.ref a0, .int x1, .int x2, .int x3, .int (x4 + nI 1)]) rfl rfl rfl rfl) <|
  (mx_goto t207 d207_91 (tgt := 68) (by decide))
theorem b207_94 {d : Nat} {S : mm_S} {a0 : Nat} {x1 : Int32} {x2 : Int32} {x3 : Int32} {x4 : Int32} : mm_ex d 207 94 [.ref a0, .int x1, .int x2, .int x3, .int x4] [] S =
    some (some (.int (nI 1)), S) :=
  Eq.trans (mx_iconst t207 d207_94 (v := nI 1) rfl) <|
  (mx_iret t207 d207_95 (ty := .int) rfl rfl (fun h => nomatch h))
theorem e207 {d : Nat} {S : mm_S} {a0 : Nat} {x1 : Int32} {x2 : Int32} {x3 : Int32} : mm_cl d 207 [.ref a0, .int x1, .int x2, .int x3] S = mm_ex d 207 0 [.ref a0, .int x1, .int x2, .int x3, .null] [] S := mm_cl_eq t207 (Nat.le_of_ble_eq_true rfl) rfl
/-! X12_cut -/
theorem dd208_0 : (decode prog_14_method_83_code 0 = .ok (.iload_n 0, 1)) ∧ (decode prog_14_method_83_code 1 = .ok (.ifCond .ne 10, 3)) ∧ (decode prog_14_method_83_code 4 = .ok (.lload_n 1, 1)) ∧ (decode prog_14_method_83_code 5 = .ok (.l2i, 1)) ∧ (decode prog_14_method_83_code 6 = .ok (.i2b, 1)) ∧ (decode prog_14_method_83_code 7 = .ok (.i2l, 1)) ∧ (decode prog_14_method_83_code 8 = .ok (.goto 46, 3)) ∧ (decode prog_14_method_83_code 11 = .ok (.iload_n 0, 1)) ∧ (decode prog_14_method_83_code 12 = .ok (.iconst 1, 1)) ∧ (decode prog_14_method_83_code 13 = .ok (.if_icmp .ne 10, 3)) ∧ (decode prog_14_method_83_code 16 = .ok (.lload_n 1, 1)) ∧ (decode prog_14_method_83_code 17 = .ok (.l2i, 1)) ∧ (decode prog_14_method_83_code 18 = .ok (.i2s, 1)) ∧ (decode prog_14_method_83_code 19 = .ok (.i2l, 1)) ∧ (decode prog_14_method_83_code 20 = .ok (.goto 34, 3)) ∧ (decode prog_14_method_83_code 23 = .ok (.iload_n 0, 1)) := by decide +kernel
theorem d208_0 : decode prog_14_method_83_code 0 = .ok (.iload_n 0, 1) := dd208_0.1
theorem d208_1 : decode prog_14_method_83_code 1 = .ok (.ifCond .ne 10, 3) := dd208_0.2.1
theorem d208_4 : decode prog_14_method_83_code 4 = .ok (.lload_n 1, 1) := dd208_0.2.2.1
theorem d208_5 : decode prog_14_method_83_code 5 = .ok (.l2i, 1) := dd208_0.2.2.2.1
theorem d208_6 : decode prog_14_method_83_code 6 = .ok (.i2b, 1) := dd208_0.2.2.2.2.1
theorem d208_7 : decode prog_14_method_83_code 7 = .ok (.i2l, 1) := dd208_0.2.2.2.2.2.1
theorem d208_8 : decode prog_14_method_83_code 8 = .ok (.goto 46, 3) := dd208_0.2.2.2.2.2.2.1
theorem d208_11 : decode prog_14_method_83_code 11 = .ok (.iload_n 0, 1) := dd208_0.2.2.2.2.2.2.2.1
theorem d208_12 : decode prog_14_method_83_code 12 = .ok (.iconst 1, 1) := dd208_0.2.2.2.2.2.2.2.2.1
theorem d208_13 : decode prog_14_method_83_code 13 = .ok (.if_icmp .ne 10, 3) := dd208_0.2.2.2.2.2.2.2.2.2.1
theorem d208_16 : decode prog_14_method_83_code 16 = .ok (.lload_n 1, 1) := dd208_0.2.2.2.2.2.2.2.2.2.2.1
theorem d208_17 : decode prog_14_method_83_code 17 = .ok (.l2i, 1) := dd208_0.2.2.2.2.2.2.2.2.2.2.2.1
theorem d208_18 : decode prog_14_method_83_code 18 = .ok (.i2s, 1) := dd208_0.2.2.2.2.2.2.2.2.2.2.2.2.1
theorem d208_19 : decode prog_14_method_83_code 19 = .ok (.i2l, 1) := dd208_0.2.2.2.2.2.2.2.2.2.2.2.2.2.1
theorem d208_20 : decode prog_14_method_83_code 20 = .ok (.goto 34, 3) := dd208_0.2.2.2.2.2.2.2.2.2.2.2.2.2.2.1
theorem d208_23 : decode prog_14_method_83_code 23 = .ok (.iload_n 0, 1) := dd208_0.2.2.2.2.2.2.2.2.2.2.2.2.2.2.2
theorem dd208_24 : (decode prog_14_method_83_code 24 = .ok (.iconst 2, 1)) ∧ (decode prog_14_method_83_code 25 = .ok (.if_icmp .ne 9, 3)) ∧ (decode prog_14_method_83_code 28 = .ok (.lload_n 1, 1)) ∧ (decode prog_14_method_83_code 29 = .ok (.l2i, 1)) ∧ (decode prog_14_method_83_code 30 = .ok (.i2l, 1)) ∧ (decode prog_14_method_83_code 31 = .ok (.goto 23, 3)) ∧ (decode prog_14_method_83_code 34 = .ok (.iload_n 0, 1)) ∧ (decode prog_14_method_83_code 35 = .ok (.iconst 3, 1)) ∧ (decode prog_14_method_83_code 36 = .ok (.if_icmp .ne 7, 3)) ∧ (decode prog_14_method_83_code 39 = .ok (.lload_n 1, 1)) ∧ (decode prog_14_method_83_code 40 = .ok (.goto 14, 3)) ∧ (decode prog_14_method_83_code 43 = .ok (.lload_n 1, 1)) ∧ (decode prog_14_method_83_code 44 = .ok (.lconst 0, 1)) ∧ (decode prog_14_method_83_code 45 = .ok (.lcmp, 1)) ∧ (decode prog_14_method_83_code 46 = .ok (.ifCond .eq 7, 3)) ∧ (decode prog_14_method_83_code 49 = .ok (.lconst 1, 1)) := by decide +kernel
theorem d208_24 : decode prog_14_method_83_code 24 = .ok (.iconst 2, 1) := dd208_24.1
theorem d208_25 : decode prog_14_method_83_code 25 = .ok (.if_icmp .ne 9, 3) := dd208_24.2.1
theorem d208_28 : decode prog_14_method_83_code 28 = .ok (.lload_n 1, 1) := dd208_24.2.2.1
theorem d208_29 : decode prog_14_method_83_code 29 = .ok (.l2i, 1) := dd208_24.2.2.2.1
theorem d208_30 : decode prog_14_method_83_code 30 = .ok (.i2l, 1) := dd208_24.2.2.2.2.1
theorem d208_31 : decode prog_14_method_83_code 31 = .ok (.goto 23, 3) := dd208_24.2.2.2.2.2.1
theorem d208_34 : decode prog_14_method_83_code 34 = .ok (.iload_n 0, 1) := dd208_24.2.2.2.2.2.2.1
theorem d208_35 : decode prog_14_method_83_code 35 = .ok (.iconst 3, 1) := dd208_24.2.2.2.2.2.2.2.1
theorem d208_36 : decode prog_14_method_83_code 36 = .ok (.if_icmp .ne 7, 3) := dd208_24.2.2.2.2.2.2.2.2.1
theorem d208_39 : decode prog_14_method_83_code 39 = .ok (.lload_n 1, 1) := dd208_24.2.2.2.2.2.2.2.2.2.1
theorem d208_40 : decode prog_14_method_83_code 40 = .ok (.goto 14, 3) := dd208_24.2.2.2.2.2.2.2.2.2.2.1
theorem d208_43 : decode prog_14_method_83_code 43 = .ok (.lload_n 1, 1) := dd208_24.2.2.2.2.2.2.2.2.2.2.2.1
theorem d208_44 : decode prog_14_method_83_code 44 = .ok (.lconst 0, 1) := dd208_24.2.2.2.2.2.2.2.2.2.2.2.2.1
theorem d208_45 : decode prog_14_method_83_code 45 = .ok (.lcmp, 1) := dd208_24.2.2.2.2.2.2.2.2.2.2.2.2.2.1
theorem d208_46 : decode prog_14_method_83_code 46 = .ok (.ifCond .eq 7, 3) := dd208_24.2.2.2.2.2.2.2.2.2.2.2.2.2.2.1
theorem d208_49 : decode prog_14_method_83_code 49 = .ok (.lconst 1, 1) := dd208_24.2.2.2.2.2.2.2.2.2.2.2.2.2.2.2
theorem dd208_50 : (decode prog_14_method_83_code 50 = .ok (.goto 4, 3)) ∧ (decode prog_14_method_83_code 53 = .ok (.lconst 0, 1)) ∧ (decode prog_14_method_83_code 54 = .ok (.lreturn, 1)) := by decide +kernel
theorem d208_50 : decode prog_14_method_83_code 50 = .ok (.goto 4, 3) := dd208_50.1
theorem d208_53 : decode prog_14_method_83_code 53 = .ok (.lconst 0, 1) := dd208_50.2.1
theorem d208_54 : decode prog_14_method_83_code 54 = .ok (.lreturn, 1) := dd208_50.2.2
theorem b208_0 {d : Nat} {S : mm_S} {x0 : Int32} {j1 : Int64} : mm_ex d 208 0 [.int x0, .long j1, .null] [] S =
    if x0 = nI 0 then mm_ex d 208 4 [.int x0, .long j1, .null] [] S else mm_ex d 208 11 [.int x0, .long j1, .null] [] S :=
  Eq.trans (mx_iload_n t208 d208_0 (x := x0) rfl) <|
  (mx_ine t208 d208_1 (tgt := 11) (by decide))
theorem b208_4 {d : Nat} {S : mm_S} {x0 : Int32} {j1 : Int64} : mm_ex d 208 4 [.int x0, .long j1, .null] [] S =
    some (some (.long j1.toInt32.toInt8.toInt32.toInt64), S) :=
  Eq.trans (mx_lload_n t208 d208_4 (x := j1) rfl) <|
  Eq.trans (mx_l2i t208 d208_5) <|
  Eq.trans (mx_i2b t208 d208_6) <|
  Eq.trans (mx_i2l t208 d208_7) <|
  Eq.trans (mx_goto t208 d208_8 (tgt := 54) (by decide)) <|
  (mx_lret t208 d208_54 rfl)
theorem b208_11 {d : Nat} {S : mm_S} {x0 : Int32} {j1 : Int64} : mm_ex d 208 11 [.int x0, .long j1, .null] [] S =
    if x0 = (nI 1) then mm_ex d 208 16 [.int x0, .long j1, .null] [] S else mm_ex d 208 23 [.int x0, .long j1, .null] [] S :=
  Eq.trans (mx_iload_n t208 d208_11 (x := x0) rfl) <|
  Eq.trans (mx_iconst t208 d208_12 (v := nI 1) rfl) <|
  (mx_cne t208 d208_13 (tgt := 23) (by decide))
theorem b208_16 {d : Nat} {S : mm_S} {x0 : Int32} {j1 : Int64} : mm_ex d 208 16 [.int x0, .long j1, .null] [] S =
    some (some (.long j1.toInt32.toInt16.toInt32.toInt64), S) :=
  Eq.trans (mx_lload_n t208 d208_16 (x := j1) rfl) <|
  Eq.trans (mx_l2i t208 d208_17) <|
  Eq.trans (mx_i2s t208 d208_18) <|
  Eq.trans (mx_i2l t208 d208_19) <|
  Eq.trans (mx_goto t208 d208_20 (tgt := 54) (by decide)) <|
  (mx_lret t208 d208_54 rfl)
theorem b208_23 {d : Nat} {S : mm_S} {x0 : Int32} {j1 : Int64} : mm_ex d 208 23 [.int x0, .long j1, .null] [] S =
    if x0 = (nI 2) then mm_ex d 208 28 [.int x0, .long j1, .null] [] S else mm_ex d 208 34 [.int x0, .long j1, .null] [] S :=
  Eq.trans (mx_iload_n t208 d208_23 (x := x0) rfl) <|
  Eq.trans (mx_iconst t208 d208_24 (v := nI 2) rfl) <|
  (mx_cne t208 d208_25 (tgt := 34) (by decide))
theorem b208_28 {d : Nat} {S : mm_S} {x0 : Int32} {j1 : Int64} : mm_ex d 208 28 [.int x0, .long j1, .null] [] S =
    some (some (.long j1.toInt32.toInt64), S) :=
  Eq.trans (mx_lload_n t208 d208_28 (x := j1) rfl) <|
  Eq.trans (mx_l2i t208 d208_29) <|
  Eq.trans (mx_i2l t208 d208_30) <|
  Eq.trans (mx_goto t208 d208_31 (tgt := 54) (by decide)) <|
  (mx_lret t208 d208_54 rfl)
theorem b208_34 {d : Nat} {S : mm_S} {x0 : Int32} {j1 : Int64} : mm_ex d 208 34 [.int x0, .long j1, .null] [] S =
    if x0 = (nI 3) then mm_ex d 208 39 [.int x0, .long j1, .null] [] S else mm_ex d 208 43 [.int x0, .long j1, .null] [] S :=
  Eq.trans (mx_iload_n t208 d208_34 (x := x0) rfl) <|
  Eq.trans (mx_iconst t208 d208_35 (v := nI 3) rfl) <|
  (mx_cne t208 d208_36 (tgt := 43) (by decide))
theorem b208_39 {d : Nat} {S : mm_S} {x0 : Int32} {j1 : Int64} : mm_ex d 208 39 [.int x0, .long j1, .null] [] S =
    some (some (.long j1), S) :=
  Eq.trans (mx_lload_n t208 d208_39 (x := j1) rfl) <|
  Eq.trans (mx_goto t208 d208_40 (tgt := 54) (by decide)) <|
  (mx_lret t208 d208_54 rfl)
theorem b208_43 {d : Nat} {S : mm_S} {x0 : Int32} {j1 : Int64} : mm_ex d 208 43 [.int x0, .long j1, .null] [] S =
    if (lg_cmp j1 0) = nI 0 then mm_ex d 208 53 [.int x0, .long j1, .null] [] S else mm_ex d 208 49 [.int x0, .long j1, .null] [] S :=
  Eq.trans (mx_lload_n t208 d208_43 (x := j1) rfl) <|
  Eq.trans (mx_lconst t208 d208_44 (v := 0) rfl) <|
  Eq.trans (mx_lcmp t208 d208_45) <|
  (mx_ieq t208 d208_46 (tgt := 53) (by decide))
theorem b208_49 {d : Nat} {S : mm_S} {x0 : Int32} {j1 : Int64} : mm_ex d 208 49 [.int x0, .long j1, .null] [] S =
    some (some (.long 1), S) :=
  Eq.trans (mx_lconst t208 d208_49 (v := 1) rfl) <|
  Eq.trans (mx_goto t208 d208_50 (tgt := 54) (by decide)) <|
  (mx_lret t208 d208_54 rfl)
theorem b208_53 {d : Nat} {S : mm_S} {x0 : Int32} {j1 : Int64} : mm_ex d 208 53 [.int x0, .long j1, .null] [] S =
    some (some (.long 0), S) :=
  Eq.trans (mx_lconst t208 d208_53 (v := 0) rfl) <|
  (mx_lret t208 d208_54 rfl)
theorem e208 {d : Nat} {S : mm_S} {x0 : Int32} {j1 : Int64} : mm_cl d 208 [.int x0, .long j1] S = mm_ex d 208 0 [.int x0, .long j1, .null] [] S := mm_cl_eq t208 (Nat.le_of_ble_eq_true rfl) rfl
/-! X12_item -/
theorem dd209_0 : (decode prog_14_method_84_code 0 = .ok (.aload_n 0, 1)) ∧ (decode prog_14_method_84_code 1 = .ok (.iload_n 1, 1)) ∧ (decode prog_14_method_84_code 2 = .ok (.invokevirtual 368, 3)) ∧ (decode prog_14_method_84_code 5 = .ok (.ifCond .ne 5, 3)) ∧ (decode prog_14_method_84_code 8 = .ok (.iconst (-1), 1)) ∧ (decode prog_14_method_84_code 9 = .ok (.ireturn, 1)) ∧ (decode prog_14_method_84_code 10 = .ok (.aload_n 0, 1)) ∧ (decode prog_14_method_84_code 11 = .ok (.getfield 76, 3)) ∧ (decode prog_14_method_84_code 14 = .ok (.iload_n 1, 1)) ∧ (decode prog_14_method_84_code 15 = .ok (.iaload, 1)) ∧ (decode prog_14_method_84_code 16 = .ok (.iconst (-1), 1)) ∧ (decode prog_14_method_84_code 17 = .ok (.if_icmp .ne 6, 3)) ∧ (decode prog_14_method_84_code 20 = .ok (.bipush (-11), 2)) ∧ (decode prog_14_method_84_code 22 = .ok (.ireturn, 1)) ∧ (decode prog_14_method_84_code 23 = .ok (.iload_n 2, 1)) ∧ (decode prog_14_method_84_code 24 = .ok (.iconst 0, 1)) := by decide +kernel
theorem d209_0 : decode prog_14_method_84_code 0 = .ok (.aload_n 0, 1) := dd209_0.1
theorem d209_1 : decode prog_14_method_84_code 1 = .ok (.iload_n 1, 1) := dd209_0.2.1
theorem d209_2 : decode prog_14_method_84_code 2 = .ok (.invokevirtual 368, 3) := dd209_0.2.2.1
theorem d209_5 : decode prog_14_method_84_code 5 = .ok (.ifCond .ne 5, 3) := dd209_0.2.2.2.1
theorem d209_8 : decode prog_14_method_84_code 8 = .ok (.iconst (-1), 1) := dd209_0.2.2.2.2.1
theorem d209_9 : decode prog_14_method_84_code 9 = .ok (.ireturn, 1) := dd209_0.2.2.2.2.2.1
theorem d209_10 : decode prog_14_method_84_code 10 = .ok (.aload_n 0, 1) := dd209_0.2.2.2.2.2.2.1
theorem d209_11 : decode prog_14_method_84_code 11 = .ok (.getfield 76, 3) := dd209_0.2.2.2.2.2.2.2.1
theorem d209_14 : decode prog_14_method_84_code 14 = .ok (.iload_n 1, 1) := dd209_0.2.2.2.2.2.2.2.2.1
theorem d209_15 : decode prog_14_method_84_code 15 = .ok (.iaload, 1) := dd209_0.2.2.2.2.2.2.2.2.2.1
theorem d209_16 : decode prog_14_method_84_code 16 = .ok (.iconst (-1), 1) := dd209_0.2.2.2.2.2.2.2.2.2.2.1
theorem d209_17 : decode prog_14_method_84_code 17 = .ok (.if_icmp .ne 6, 3) := dd209_0.2.2.2.2.2.2.2.2.2.2.2.1
theorem d209_20 : decode prog_14_method_84_code 20 = .ok (.bipush (-11), 2) := dd209_0.2.2.2.2.2.2.2.2.2.2.2.2.1
theorem d209_22 : decode prog_14_method_84_code 22 = .ok (.ireturn, 1) := dd209_0.2.2.2.2.2.2.2.2.2.2.2.2.2.1
theorem d209_23 : decode prog_14_method_84_code 23 = .ok (.iload_n 2, 1) := dd209_0.2.2.2.2.2.2.2.2.2.2.2.2.2.2.1
theorem d209_24 : decode prog_14_method_84_code 24 = .ok (.iconst 0, 1) := dd209_0.2.2.2.2.2.2.2.2.2.2.2.2.2.2.2
theorem dd209_25 : (decode prog_14_method_84_code 25 = .ok (.aload_n 0, 1)) ∧ (decode prog_14_method_84_code 26 = .ok (.getfield 79, 3)) ∧ (decode prog_14_method_84_code 29 = .ok (.iload_n 1, 1)) ∧ (decode prog_14_method_84_code 30 = .ok (.iaload, 1)) ∧ (decode prog_14_method_84_code 31 = .ok (.iconst 1, 1)) ∧ (decode prog_14_method_84_code 32 = .ok (.isub, 1)) ∧ (decode prog_14_method_84_code 33 = .ok (.invokestatic 162, 3)) ∧ (decode prog_14_method_84_code 36 = .ok (.ifCond .ne 6, 3)) ∧ (decode prog_14_method_84_code 39 = .ok (.bipush (-13), 2)) ∧ (decode prog_14_method_84_code 41 = .ok (.ireturn, 1)) ∧ (decode prog_14_method_84_code 42 = .ok (.aload_n 0, 1)) ∧ (decode prog_14_method_84_code 43 = .ok (.getfield 82, 3)) ∧ (decode prog_14_method_84_code 46 = .ok (.bipush 60, 2)) ∧ (decode prog_14_method_84_code 48 = .ok (.iload_n 1, 1)) ∧ (decode prog_14_method_84_code 49 = .ok (.imul, 1)) ∧ (decode prog_14_method_84_code 50 = .ok (.iload_n 2, 1)) := by decide +kernel
theorem d209_25 : decode prog_14_method_84_code 25 = .ok (.aload_n 0, 1) := dd209_25.1
theorem d209_26 : decode prog_14_method_84_code 26 = .ok (.getfield 79, 3) := dd209_25.2.1
theorem d209_29 : decode prog_14_method_84_code 29 = .ok (.iload_n 1, 1) := dd209_25.2.2.1
theorem d209_30 : decode prog_14_method_84_code 30 = .ok (.iaload, 1) := dd209_25.2.2.2.1
theorem d209_31 : decode prog_14_method_84_code 31 = .ok (.iconst 1, 1) := dd209_25.2.2.2.2.1
theorem d209_32 : decode prog_14_method_84_code 32 = .ok (.isub, 1) := dd209_25.2.2.2.2.2.1
theorem d209_33 : decode prog_14_method_84_code 33 = .ok (.invokestatic 162, 3) := dd209_25.2.2.2.2.2.2.1
theorem d209_36 : decode prog_14_method_84_code 36 = .ok (.ifCond .ne 6, 3) := dd209_25.2.2.2.2.2.2.2.1
theorem d209_39 : decode prog_14_method_84_code 39 = .ok (.bipush (-13), 2) := dd209_25.2.2.2.2.2.2.2.2.1
theorem d209_41 : decode prog_14_method_84_code 41 = .ok (.ireturn, 1) := dd209_25.2.2.2.2.2.2.2.2.2.1
theorem d209_42 : decode prog_14_method_84_code 42 = .ok (.aload_n 0, 1) := dd209_25.2.2.2.2.2.2.2.2.2.2.1
theorem d209_43 : decode prog_14_method_84_code 43 = .ok (.getfield 82, 3) := dd209_25.2.2.2.2.2.2.2.2.2.2.2.1
theorem d209_46 : decode prog_14_method_84_code 46 = .ok (.bipush 60, 2) := dd209_25.2.2.2.2.2.2.2.2.2.2.2.2.1
theorem d209_48 : decode prog_14_method_84_code 48 = .ok (.iload_n 1, 1) := dd209_25.2.2.2.2.2.2.2.2.2.2.2.2.2.1
theorem d209_49 : decode prog_14_method_84_code 49 = .ok (.imul, 1) := dd209_25.2.2.2.2.2.2.2.2.2.2.2.2.2.2.1
theorem d209_50 : decode prog_14_method_84_code 50 = .ok (.iload_n 2, 1) := dd209_25.2.2.2.2.2.2.2.2.2.2.2.2.2.2.2
theorem dd209_51 : (decode prog_14_method_84_code 51 = .ok (.iadd, 1)) ∧ (decode prog_14_method_84_code 52 = .ok (.aload_n 0, 1)) ∧ (decode prog_14_method_84_code 53 = .ok (.getfield 76, 3)) ∧ (decode prog_14_method_84_code 56 = .ok (.iload_n 1, 1)) ∧ (decode prog_14_method_84_code 57 = .ok (.iaload, 1)) ∧ (decode prog_14_method_84_code 58 = .ok (.lload_n 3, 1)) ∧ (decode prog_14_method_84_code 59 = .ok (.invokestatic 407, 3)) ∧ (decode prog_14_method_84_code 62 = .ok (.lastore, 1)) ∧ (decode prog_14_method_84_code 63 = .ok (.iconst 1, 1)) ∧ (decode prog_14_method_84_code 64 = .ok (.ireturn, 1)) := by decide +kernel
theorem d209_51 : decode prog_14_method_84_code 51 = .ok (.iadd, 1) := dd209_51.1
theorem d209_52 : decode prog_14_method_84_code 52 = .ok (.aload_n 0, 1) := dd209_51.2.1
theorem d209_53 : decode prog_14_method_84_code 53 = .ok (.getfield 76, 3) := dd209_51.2.2.1
theorem d209_56 : decode prog_14_method_84_code 56 = .ok (.iload_n 1, 1) := dd209_51.2.2.2.1
theorem d209_57 : decode prog_14_method_84_code 57 = .ok (.iaload, 1) := dd209_51.2.2.2.2.1
theorem d209_58 : decode prog_14_method_84_code 58 = .ok (.lload_n 3, 1) := dd209_51.2.2.2.2.2.1
theorem d209_59 : decode prog_14_method_84_code 59 = .ok (.invokestatic 407, 3) := dd209_51.2.2.2.2.2.2.1
theorem d209_62 : decode prog_14_method_84_code 62 = .ok (.lastore, 1) := dd209_51.2.2.2.2.2.2.2.1
theorem d209_63 : decode prog_14_method_84_code 63 = .ok (.iconst 1, 1) := dd209_51.2.2.2.2.2.2.2.2.1
theorem d209_64 : decode prog_14_method_84_code 64 = .ok (.ireturn, 1) := dd209_51.2.2.2.2.2.2.2.2.2
theorem b209_0 {d : Nat} {S : mm_S} {a0 : Nat} {x1 : Int32} {x2 : Int32} {j3 : Int64} (h0 : mm_rk S a0 = 12) : mm_ex (d + 1) 209 0 [.ref a0, .int x1, .int x2, .long j3, .null] [] S =
    mm_bd (mm_cl d 194 [.ref a0, .int x1] S) (fun v S2 => mm_ex (d + 1) 209 5 [.ref a0, .int x1, .int x2, .long j3, .null] (v.toList ++ []) S2) :=
  Eq.trans (mx_aload_n t209 d209_0 (x := a0) rfl) <|
  Eq.trans (mx_iload_n t209 d209_1 (x := x1) rfl) <|
  (mx_virt (st := []) (k := 12) t209 [.int x1] d209_2 vt12_368 rfl rfl (Nat.le_of_ble_eq_true rfl) (Nat.le_of_ble_eq_true rfl) h0)
theorem b209_5 {d : Nat} {S : mm_S} {a0 : Nat} {x1 : Int32} {x2 : Int32} {j3 : Int64} {p0 : Int32} : mm_ex d 209 5 [.ref a0, .int x1, .int x2, .long j3, .null] [.int p0] S =
    if p0 = nI 0 then mm_ex d 209 8 [.ref a0, .int x1, .int x2, .long j3, .null] [] S else mm_ex d 209 10 [.ref a0, .int x1, .int x2, .long j3, .null] [] S :=
  (mx_ine t209 d209_5 (tgt := 10) (by decide))
theorem b209_8 {d : Nat} {S : mm_S} {a0 : Nat} {x1 : Int32} {x2 : Int32} {j3 : Int64} : mm_ex d 209 8 [.ref a0, .int x1, .int x2, .long j3, .null] [] S =
    some (some (.int (-1)), S) :=
  Eq.trans (mx_iconst t209 d209_8 (v := -1) rfl) <|
  (mx_iret t209 d209_9 (ty := .int) rfl rfl (fun h => nomatch h))
theorem b209_10 {d : Nat} {S : mm_S} {a0 : Nat} {x1 : Int32} {x2 : Int32} {j3 : Int64} (h0 : mm_obj S a0 12 = true) (h1 : (mm_R S a0 30).isSome = true) (h2 : mm_inb x1 (mm_N S (mm_rg S a0 30)) = true) (h3 : mm_arr S (mm_rg S a0 30) 13 = true) : mm_ex d 209 10 [.ref a0, .int x1, .int x2, .long j3, .null] [] S =
    if (mm_M S (mm_rg S a0 30) (x1).toNatClampNeg) = (-1) then mm_ex d 209 20 [.ref a0, .int x1, .int x2, .long j3, .null] [] S else mm_ex d 209 23 [.ref a0, .int x1, .int x2, .long j3, .null] [] S :=
  Eq.trans (mx_aload_n t209 d209_10 (x := a0) rfl) <|
  Eq.trans (mx_getR t209 d209_11 rfl fl12_76 h0 h1) <|
  Eq.trans (mx_iload_n t209 d209_14 (x := x1) rfl) <|
  Eq.trans (mx_iald t209 d209_15 h3 h2) <|
  Eq.trans (mx_iconst t209 d209_16 (v := -1) rfl) <|
  (mx_cne t209 d209_17 (tgt := 23) (by decide))
theorem b209_20 {d : Nat} {S : mm_S} {a0 : Nat} {x1 : Int32} {x2 : Int32} {j3 : Int64} : mm_ex d 209 20 [.ref a0, .int x1, .int x2, .long j3, .null] [] S =
    some (some (.int (-11)), S) :=
  Eq.trans (mx_bipush t209 d209_20 (v := -11) rfl) <|
  (mx_iret t209 d209_22 (ty := .int) rfl rfl (fun h => nomatch h))
theorem b209_23 {d : Nat} {S : mm_S} {a0 : Nat} {x1 : Int32} {x2 : Int32} {j3 : Int64} (h0 : mm_obj S a0 12 = true) (h1 : (mm_R S a0 31).isSome = true) (h2 : mm_inb x1 (mm_N S (mm_rg S a0 31)) = true) (h3 : mm_arr S (mm_rg S a0 31) 13 = true) : mm_ex (d + 1) 209 23 [.ref a0, .int x1, .int x2, .long j3, .null] [] S =
    mm_bd (mm_cl d 128 [.int x2, .int (nI 0), .int ((mm_M S (mm_rg S a0 31) (x1).toNatClampNeg) - (nI 1))] S) (fun v S2 => mm_ex (d + 1) 209 36 [.ref a0, .int x1, .int x2, .long j3, .null] (v.toList ++ []) S2) :=
  Eq.trans (mx_iload_n t209 d209_23 (x := x2) rfl) <|
  Eq.trans (mx_iconst t209 d209_24 (v := nI 0) rfl) <|
  Eq.trans (mx_aload_n t209 d209_25 (x := a0) rfl) <|
  Eq.trans (mx_getR t209 d209_26 rfl fl12_79 h0 h1) <|
  Eq.trans (mx_iload_n t209 d209_29 (x := x1) rfl) <|
  Eq.trans (mx_iald t209 d209_30 h3 h2) <|
  Eq.trans (mx_iconst t209 d209_31 (v := nI 1) rfl) <|
  Eq.trans (mx_isub t209 d209_32) <|
  (mx_stat (st := []) t209 [.int x2, .int (nI 0), .int ((mm_M S (mm_rg S a0 31) (x1).toNatClampNeg) - (nI 1))] d209_33 acn12_162 mxn12_162 st12_162 rfl (Nat.le_of_ble_eq_true rfl) (Nat.le_of_ble_eq_true rfl))
theorem b209_36 {d : Nat} {S : mm_S} {a0 : Nat} {x1 : Int32} {x2 : Int32} {j3 : Int64} {p0 : Int32} : mm_ex d 209 36 [.ref a0, .int x1, .int x2, .long j3, .null] [.int p0] S =
    if p0 = nI 0 then mm_ex d 209 39 [.ref a0, .int x1, .int x2, .long j3, .null] [] S else mm_ex d 209 42 [.ref a0, .int x1, .int x2, .long j3, .null] [] S :=
  (mx_ine t209 d209_36 (tgt := 42) (by decide))
theorem b209_39 {d : Nat} {S : mm_S} {a0 : Nat} {x1 : Int32} {x2 : Int32} {j3 : Int64} : mm_ex d 209 39 [.ref a0, .int x1, .int x2, .long j3, .null] [] S =
    some (some (.int (-13)), S) :=
  Eq.trans (mx_bipush t209 d209_39 (v := -13) rfl) <|
  (mx_iret t209 d209_41 (ty := .int) rfl rfl (fun h => nomatch h))
theorem b209_42 {d : Nat} {S : mm_S} {a0 : Nat} {x1 : Int32} {x2 : Int32} {j3 : Int64} (h0 : mm_obj S a0 12 = true) (h1 : (mm_R S a0 32).isSome = true) (h2 : (mm_R S a0 30).isSome = true) (h3 : mm_inb x1 (mm_N S (mm_rg S a0 30)) = true) (h4 : mm_arr S (mm_rg S a0 30) 13 = true) : mm_ex (d + 1) 209 42 [.ref a0, .int x1, .int x2, .long j3, .null] [] S =
    mm_bd (mm_cl d 208 [.int (mm_M S (mm_rg S a0 30) (x1).toNatClampNeg), .long j3] S) (fun v S2 => mm_ex (d + 1) 209 62 [.ref a0, .int x1, .int x2, .long j3, .null] (v.toList ++ [.int (((nI 60) * x1) + x2), .ref (mm_rg S a0 32)]) S2) :=
  Eq.trans (mx_aload_n t209 d209_42 (x := a0) rfl) <|
  Eq.trans (mx_getR t209 d209_43 rfl fl12_82 h0 h1) <|
  Eq.trans (mx_bipush t209 d209_46 (v := nI 60) rfl) <|
  Eq.trans (mx_iload_n t209 d209_48 (x := x1) rfl) <|
  Eq.trans (mx_imul t209 d209_49) <|
  Eq.trans (mx_iload_n t209 d209_50 (x := x2) rfl) <|
  Eq.trans (mx_iadd t209 d209_51) <|
  Eq.trans (mx_aload_n t209 d209_52 (x := a0) rfl) <|
  Eq.trans (mx_getR t209 d209_53 rfl fl12_76 h0 h2) <|
  Eq.trans (mx_iload_n t209 d209_56 (x := x1) rfl) <|
  Eq.trans (mx_iald t209 d209_57 h4 h3) <|
  Eq.trans (mx_lload_n t209 d209_58 (x := j3) rfl) <|
  (mx_stat (st := [.int (((nI 60) * x1) + x2), .ref (mm_rg S a0 32)]) t209 [.int (mm_M S (mm_rg S a0 30) (x1).toNatClampNeg), .long j3] d209_59 acn12_407 mxn12_407 st12_407 rfl (Nat.le_of_ble_eq_true rfl) (Nat.le_of_ble_eq_true rfl))
theorem b209_62 {d : Nat} {S : mm_S} {a0 : Nat} {x1 : Int32} {x2 : Int32} {j3 : Int64} {p0 : Int64} {p1 : Int32} {p2 : Nat} (h0 : mm_arr S p2 14 = true) (h1 : mm_inb p1 (mm_N S p2) = true) : mm_ex d 209 62 [.ref a0, .int x1, .int x2, .long j3, .null] [.long p0, .int p1, .ref p2] S =
    some (some (.int (nI 1)), (mm_uL S p2 (p1).toNatClampNeg p0)) :=
  Eq.trans (mx_last2 t209 d209_62 h0 h1) <|
  Eq.trans (mx_iconst t209 d209_63 (v := nI 1) rfl) <|
  (mx_iret t209 d209_64 (ty := .int) rfl rfl (fun h => nomatch h))
theorem e209 {d : Nat} {S : mm_S} {a0 : Nat} {x1 : Int32} {x2 : Int32} {j3 : Int64} : mm_cl d 209 [.ref a0, .int x1, .int x2, .long j3] S = mm_ex d 209 0 [.ref a0, .int x1, .int x2, .long j3, .null] [] S := mm_cl_eq t209 (Nat.le_of_ble_eq_true rfl) rfl
/-! X12_read -/
theorem dd210_0 : (decode prog_14_method_85_code 0 = .ok (.aload_n 0, 1)) ∧ (decode prog_14_method_85_code 1 = .ok (.iload_n 1, 1)) ∧ (decode prog_14_method_85_code 2 = .ok (.invokevirtual 368, 3)) ∧ (decode prog_14_method_85_code 5 = .ok (.ifCond .eq 43, 3)) ∧ (decode prog_14_method_85_code 8 = .ok (.aload_n 0, 1)) ∧ (decode prog_14_method_85_code 9 = .ok (.getfield 76, 3)) ∧ (decode prog_14_method_85_code 12 = .ok (.iload_n 1, 1)) ∧ (decode prog_14_method_85_code 13 = .ok (.iaload, 1)) ∧ (decode prog_14_method_85_code 14 = .ok (.iconst (-1), 1)) ∧ (decode prog_14_method_85_code 15 = .ok (.if_icmp .eq 33, 3)) ∧ (decode prog_14_method_85_code 18 = .ok (.iload_n 2, 1)) ∧ (decode prog_14_method_85_code 19 = .ok (.iconst 0, 1)) ∧ (decode prog_14_method_85_code 20 = .ok (.aload_n 0, 1)) ∧ (decode prog_14_method_85_code 21 = .ok (.getfield 79, 3)) ∧ (decode prog_14_method_85_code 24 = .ok (.iload_n 1, 1)) ∧ (decode prog_14_method_85_code 25 = .ok (.iaload, 1)) := by decide +kernel
theorem d210_0 : decode prog_14_method_85_code 0 = .ok (.aload_n 0, 1) := dd210_0.1
theorem d210_1 : decode prog_14_method_85_code 1 = .ok (.iload_n 1, 1) := dd210_0.2.1
theorem d210_2 : decode prog_14_method_85_code 2 = .ok (.invokevirtual 368, 3) := dd210_0.2.2.1
theorem d210_5 : decode prog_14_method_85_code 5 = .ok (.ifCond .eq 43, 3) := dd210_0.2.2.2.1
theorem d210_8 : decode prog_14_method_85_code 8 = .ok (.aload_n 0, 1) := dd210_0.2.2.2.2.1
theorem d210_9 : decode prog_14_method_85_code 9 = .ok (.getfield 76, 3) := dd210_0.2.2.2.2.2.1
theorem d210_12 : decode prog_14_method_85_code 12 = .ok (.iload_n 1, 1) := dd210_0.2.2.2.2.2.2.1
theorem d210_13 : decode prog_14_method_85_code 13 = .ok (.iaload, 1) := dd210_0.2.2.2.2.2.2.2.1
theorem d210_14 : decode prog_14_method_85_code 14 = .ok (.iconst (-1), 1) := dd210_0.2.2.2.2.2.2.2.2.1
theorem d210_15 : decode prog_14_method_85_code 15 = .ok (.if_icmp .eq 33, 3) := dd210_0.2.2.2.2.2.2.2.2.2.1
theorem d210_18 : decode prog_14_method_85_code 18 = .ok (.iload_n 2, 1) := dd210_0.2.2.2.2.2.2.2.2.2.2.1
theorem d210_19 : decode prog_14_method_85_code 19 = .ok (.iconst 0, 1) := dd210_0.2.2.2.2.2.2.2.2.2.2.2.1
theorem d210_20 : decode prog_14_method_85_code 20 = .ok (.aload_n 0, 1) := dd210_0.2.2.2.2.2.2.2.2.2.2.2.2.1
theorem d210_21 : decode prog_14_method_85_code 21 = .ok (.getfield 79, 3) := dd210_0.2.2.2.2.2.2.2.2.2.2.2.2.2.1
theorem d210_24 : decode prog_14_method_85_code 24 = .ok (.iload_n 1, 1) := dd210_0.2.2.2.2.2.2.2.2.2.2.2.2.2.2.1
theorem d210_25 : decode prog_14_method_85_code 25 = .ok (.iaload, 1) := dd210_0.2.2.2.2.2.2.2.2.2.2.2.2.2.2.2
theorem dd210_26 : (decode prog_14_method_85_code 26 = .ok (.iconst 1, 1)) ∧ (decode prog_14_method_85_code 27 = .ok (.isub, 1)) ∧ (decode prog_14_method_85_code 28 = .ok (.invokestatic 162, 3)) ∧ (decode prog_14_method_85_code 31 = .ok (.ifCond .eq 17, 3)) ∧ (decode prog_14_method_85_code 34 = .ok (.aload_n 0, 1)) ∧ (decode prog_14_method_85_code 35 = .ok (.getfield 82, 3)) ∧ (decode prog_14_method_85_code 38 = .ok (.bipush 60, 2)) ∧ (decode prog_14_method_85_code 40 = .ok (.iload_n 1, 1)) ∧ (decode prog_14_method_85_code 41 = .ok (.imul, 1)) ∧ (decode prog_14_method_85_code 42 = .ok (.iload_n 2, 1)) ∧ (decode prog_14_method_85_code 43 = .ok (.iadd, 1)) ∧ (decode prog_14_method_85_code 44 = .ok (.laload, 1)) ∧ (decode prog_14_method_85_code 45 = .ok (.goto 6, 3)) ∧ (decode prog_14_method_85_code 48 = .ok (.ldc2_w 329, 3)) ∧ (decode prog_14_method_85_code 51 = .ok (.lreturn, 1)) := by decide +kernel
theorem d210_26 : decode prog_14_method_85_code 26 = .ok (.iconst 1, 1) := dd210_26.1
theorem d210_27 : decode prog_14_method_85_code 27 = .ok (.isub, 1) := dd210_26.2.1
theorem d210_28 : decode prog_14_method_85_code 28 = .ok (.invokestatic 162, 3) := dd210_26.2.2.1
theorem d210_31 : decode prog_14_method_85_code 31 = .ok (.ifCond .eq 17, 3) := dd210_26.2.2.2.1
theorem d210_34 : decode prog_14_method_85_code 34 = .ok (.aload_n 0, 1) := dd210_26.2.2.2.2.1
theorem d210_35 : decode prog_14_method_85_code 35 = .ok (.getfield 82, 3) := dd210_26.2.2.2.2.2.1
theorem d210_38 : decode prog_14_method_85_code 38 = .ok (.bipush 60, 2) := dd210_26.2.2.2.2.2.2.1
theorem d210_40 : decode prog_14_method_85_code 40 = .ok (.iload_n 1, 1) := dd210_26.2.2.2.2.2.2.2.1
theorem d210_41 : decode prog_14_method_85_code 41 = .ok (.imul, 1) := dd210_26.2.2.2.2.2.2.2.2.1
theorem d210_42 : decode prog_14_method_85_code 42 = .ok (.iload_n 2, 1) := dd210_26.2.2.2.2.2.2.2.2.2.1
theorem d210_43 : decode prog_14_method_85_code 43 = .ok (.iadd, 1) := dd210_26.2.2.2.2.2.2.2.2.2.2.1
theorem d210_44 : decode prog_14_method_85_code 44 = .ok (.laload, 1) := dd210_26.2.2.2.2.2.2.2.2.2.2.2.1
theorem d210_45 : decode prog_14_method_85_code 45 = .ok (.goto 6, 3) := dd210_26.2.2.2.2.2.2.2.2.2.2.2.2.1
theorem d210_48 : decode prog_14_method_85_code 48 = .ok (.ldc2_w 329, 3) := dd210_26.2.2.2.2.2.2.2.2.2.2.2.2.2.1
theorem d210_51 : decode prog_14_method_85_code 51 = .ok (.lreturn, 1) := dd210_26.2.2.2.2.2.2.2.2.2.2.2.2.2.2
theorem b210_0 {d : Nat} {S : mm_S} {a0 : Nat} {x1 : Int32} {x2 : Int32} (h0 : mm_rk S a0 = 12) : mm_ex (d + 1) 210 0 [.ref a0, .int x1, .int x2] [] S =
    mm_bd (mm_cl d 194 [.ref a0, .int x1] S) (fun v S2 => mm_ex (d + 1) 210 5 [.ref a0, .int x1, .int x2] (v.toList ++ []) S2) :=
  Eq.trans (mx_aload_n t210 d210_0 (x := a0) rfl) <|
  Eq.trans (mx_iload_n t210 d210_1 (x := x1) rfl) <|
  (mx_virt (st := []) (k := 12) t210 [.int x1] d210_2 vt12_368 rfl rfl (Nat.le_of_ble_eq_true rfl) (Nat.le_of_ble_eq_true rfl) h0)
theorem b210_5 {d : Nat} {S : mm_S} {a0 : Nat} {x1 : Int32} {x2 : Int32} {p0 : Int32} : mm_ex d 210 5 [.ref a0, .int x1, .int x2] [.int p0] S =
    if p0 = nI 0 then mm_ex d 210 48 [.ref a0, .int x1, .int x2] [] S else mm_ex d 210 8 [.ref a0, .int x1, .int x2] [] S :=
  (mx_ieq t210 d210_5 (tgt := 48) (by decide))
theorem b210_8 {d : Nat} {S : mm_S} {a0 : Nat} {x1 : Int32} {x2 : Int32} (h0 : mm_obj S a0 12 = true) (h1 : (mm_R S a0 30).isSome = true) (h2 : mm_inb x1 (mm_N S (mm_rg S a0 30)) = true) (h3 : mm_arr S (mm_rg S a0 30) 13 = true) : mm_ex d 210 8 [.ref a0, .int x1, .int x2] [] S =
    if (mm_M S (mm_rg S a0 30) (x1).toNatClampNeg) = (-1) then mm_ex d 210 48 [.ref a0, .int x1, .int x2] [] S else mm_ex d 210 18 [.ref a0, .int x1, .int x2] [] S :=
  Eq.trans (mx_aload_n t210 d210_8 (x := a0) rfl) <|
  Eq.trans (mx_getR t210 d210_9 rfl fl12_76 h0 h1) <|
  Eq.trans (mx_iload_n t210 d210_12 (x := x1) rfl) <|
  Eq.trans (mx_iald t210 d210_13 h3 h2) <|
  Eq.trans (mx_iconst t210 d210_14 (v := -1) rfl) <|
  (mx_ceq t210 d210_15 (tgt := 48) (by decide))
theorem b210_18 {d : Nat} {S : mm_S} {a0 : Nat} {x1 : Int32} {x2 : Int32} (h0 : mm_obj S a0 12 = true) (h1 : (mm_R S a0 31).isSome = true) (h2 : mm_inb x1 (mm_N S (mm_rg S a0 31)) = true) (h3 : mm_arr S (mm_rg S a0 31) 13 = true) : mm_ex (d + 1) 210 18 [.ref a0, .int x1, .int x2] [] S =
    mm_bd (mm_cl d 128 [.int x2, .int (nI 0), .int ((mm_M S (mm_rg S a0 31) (x1).toNatClampNeg) - (nI 1))] S) (fun v S2 => mm_ex (d + 1) 210 31 [.ref a0, .int x1, .int x2] (v.toList ++ []) S2) :=
  Eq.trans (mx_iload_n t210 d210_18 (x := x2) rfl) <|
  Eq.trans (mx_iconst t210 d210_19 (v := nI 0) rfl) <|
  Eq.trans (mx_aload_n t210 d210_20 (x := a0) rfl) <|
  Eq.trans (mx_getR t210 d210_21 rfl fl12_79 h0 h1) <|
  Eq.trans (mx_iload_n t210 d210_24 (x := x1) rfl) <|
  Eq.trans (mx_iald t210 d210_25 h3 h2) <|
  Eq.trans (mx_iconst t210 d210_26 (v := nI 1) rfl) <|
  Eq.trans (mx_isub t210 d210_27) <|
  (mx_stat (st := []) t210 [.int x2, .int (nI 0), .int ((mm_M S (mm_rg S a0 31) (x1).toNatClampNeg) - (nI 1))] d210_28 acn12_162 mxn12_162 st12_162 rfl (Nat.le_of_ble_eq_true rfl) (Nat.le_of_ble_eq_true rfl))
theorem b210_31 {d : Nat} {S : mm_S} {a0 : Nat} {x1 : Int32} {x2 : Int32} {p0 : Int32} : mm_ex d 210 31 [.ref a0, .int x1, .int x2] [.int p0] S =
    if p0 = nI 0 then mm_ex d 210 48 [.ref a0, .int x1, .int x2] [] S else mm_ex d 210 34 [.ref a0, .int x1, .int x2] [] S :=
  (mx_ieq t210 d210_31 (tgt := 48) (by decide))
theorem b210_34 {d : Nat} {S : mm_S} {a0 : Nat} {x1 : Int32} {x2 : Int32} (h0 : mm_obj S a0 12 = true) (h1 : (mm_R S a0 32).isSome = true) (h2 : mm_inb (((nI 60) * x1) + x2) (mm_N S (mm_rg S a0 32)) = true) (h3 : mm_arr S (mm_rg S a0 32) 14 = true) : mm_ex d 210 34 [.ref a0, .int x1, .int x2] [] S =
    some (some (.long (mm_L S (mm_rg S a0 32) (((nI 60) * x1) + x2).toNatClampNeg)), S) :=
  Eq.trans (mx_aload_n t210 d210_34 (x := a0) rfl) <|
  Eq.trans (mx_getR t210 d210_35 rfl fl12_82 h0 h1) <|
  Eq.trans (mx_bipush t210 d210_38 (v := nI 60) rfl) <|
  Eq.trans (mx_iload_n t210 d210_40 (x := x1) rfl) <|
  Eq.trans (mx_imul t210 d210_41) <|
  Eq.trans (mx_iload_n t210 d210_42 (x := x2) rfl) <|
  Eq.trans (mx_iadd t210 d210_43) <|
  Eq.trans (mx_lald t210 d210_44 h3 h2) <|
  Eq.trans (mx_goto t210 d210_45 (tgt := 51) (by decide)) <|
  (mx_lret t210 d210_51 rfl)
theorem b210_48 {d : Nat} {S : mm_S} {a0 : Nat} {x1 : Int32} {x2 : Int32} : mm_ex d 210 48 [.ref a0, .int x1, .int x2] [] S =
    some (some (.long (-9223372036854775808)), S) :=
  Eq.trans (mx_ldc2_w t210 d210_48 (v := -9223372036854775808) l212_329) <|
  (mx_lret t210 d210_51 rfl)
theorem e210 {d : Nat} {S : mm_S} {a0 : Nat} {x1 : Int32} {x2 : Int32} : mm_cl d 210 [.ref a0, .int x1, .int x2] S = mm_ex d 210 0 [.ref a0, .int x1, .int x2] [] S := mm_cl_eq t210 (Nat.le_of_ble_eq_true rfl) rfl
/-! X12_shift -/
theorem dd211_0 : (decode prog_14_method_86_code 0 = .ok (.aload_n 0, 1)) ∧ (decode prog_14_method_86_code 1 = .ok (.iload_n 1, 1)) ∧ (decode prog_14_method_86_code 2 = .ok (.invokevirtual 368, 3)) ∧ (decode prog_14_method_86_code 5 = .ok (.ifCond .eq 11, 3)) ∧ (decode prog_14_method_86_code 8 = .ok (.aload_n 0, 1)) ∧ (decode prog_14_method_86_code 9 = .ok (.iload_n 3, 1)) ∧ (decode prog_14_method_86_code 10 = .ok (.invokevirtual 368, 3)) ∧ (decode prog_14_method_86_code 13 = .ok (.ifCond .ne 5, 3)) ∧ (decode prog_14_method_86_code 16 = .ok (.iconst (-1), 1)) ∧ (decode prog_14_method_86_code 17 = .ok (.ireturn, 1)) ∧ (decode prog_14_method_86_code 18 = .ok (.aload_n 0, 1)) ∧ (decode prog_14_method_86_code 19 = .ok (.getfield 76, 3)) ∧ (decode prog_14_method_86_code 22 = .ok (.iload_n 1, 1)) ∧ (decode prog_14_method_86_code 23 = .ok (.iaload, 1)) ∧ (decode prog_14_method_86_code 24 = .ok (.iconst (-1), 1)) ∧ (decode prog_14_method_86_code 25 = .ok (.if_icmp .eq 13, 3)) := by decide +kernel
theorem d211_0 : decode prog_14_method_86_code 0 = .ok (.aload_n 0, 1) := dd211_0.1
theorem d211_1 : decode prog_14_method_86_code 1 = .ok (.iload_n 1, 1) := dd211_0.2.1
theorem d211_2 : decode prog_14_method_86_code 2 = .ok (.invokevirtual 368, 3) := dd211_0.2.2.1
theorem d211_5 : decode prog_14_method_86_code 5 = .ok (.ifCond .eq 11, 3) := dd211_0.2.2.2.1
theorem d211_8 : decode prog_14_method_86_code 8 = .ok (.aload_n 0, 1) := dd211_0.2.2.2.2.1
theorem d211_9 : decode prog_14_method_86_code 9 = .ok (.iload_n 3, 1) := dd211_0.2.2.2.2.2.1
theorem d211_10 : decode prog_14_method_86_code 10 = .ok (.invokevirtual 368, 3) := dd211_0.2.2.2.2.2.2.1
theorem d211_13 : decode prog_14_method_86_code 13 = .ok (.ifCond .ne 5, 3) := dd211_0.2.2.2.2.2.2.2.1
theorem d211_16 : decode prog_14_method_86_code 16 = .ok (.iconst (-1), 1) := dd211_0.2.2.2.2.2.2.2.2.1
theorem d211_17 : decode prog_14_method_86_code 17 = .ok (.ireturn, 1) := dd211_0.2.2.2.2.2.2.2.2.2.1
theorem d211_18 : decode prog_14_method_86_code 18 = .ok (.aload_n 0, 1) := dd211_0.2.2.2.2.2.2.2.2.2.2.1
theorem d211_19 : decode prog_14_method_86_code 19 = .ok (.getfield 76, 3) := dd211_0.2.2.2.2.2.2.2.2.2.2.2.1
theorem d211_22 : decode prog_14_method_86_code 22 = .ok (.iload_n 1, 1) := dd211_0.2.2.2.2.2.2.2.2.2.2.2.2.1
theorem d211_23 : decode prog_14_method_86_code 23 = .ok (.iaload, 1) := dd211_0.2.2.2.2.2.2.2.2.2.2.2.2.2.1
theorem d211_24 : decode prog_14_method_86_code 24 = .ok (.iconst (-1), 1) := dd211_0.2.2.2.2.2.2.2.2.2.2.2.2.2.2.1
theorem d211_25 : decode prog_14_method_86_code 25 = .ok (.if_icmp .eq 13, 3) := dd211_0.2.2.2.2.2.2.2.2.2.2.2.2.2.2.2
theorem dd211_28 : (decode prog_14_method_86_code 28 = .ok (.aload_n 0, 1)) ∧ (decode prog_14_method_86_code 29 = .ok (.getfield 76, 3)) ∧ (decode prog_14_method_86_code 32 = .ok (.iload_n 3, 1)) ∧ (decode prog_14_method_86_code 33 = .ok (.iaload, 1)) ∧ (decode prog_14_method_86_code 34 = .ok (.iconst (-1), 1)) ∧ (decode prog_14_method_86_code 35 = .ok (.if_icmp .ne 6, 3)) ∧ (decode prog_14_method_86_code 38 = .ok (.bipush (-11), 2)) ∧ (decode prog_14_method_86_code 40 = .ok (.ireturn, 1)) ∧ (decode prog_14_method_86_code 41 = .ok (.aload_n 0, 1)) ∧ (decode prog_14_method_86_code 42 = .ok (.getfield 76, 3)) ∧ (decode prog_14_method_86_code 45 = .ok (.iload_n 1, 1)) ∧ (decode prog_14_method_86_code 46 = .ok (.iaload, 1)) ∧ (decode prog_14_method_86_code 47 = .ok (.aload_n 0, 1)) ∧ (decode prog_14_method_86_code 48 = .ok (.getfield 76, 3)) ∧ (decode prog_14_method_86_code 51 = .ok (.iload_n 3, 1)) ∧ (decode prog_14_method_86_code 52 = .ok (.iaload, 1)) := by decide +kernel
theorem d211_28 : decode prog_14_method_86_code 28 = .ok (.aload_n 0, 1) := dd211_28.1
theorem d211_29 : decode prog_14_method_86_code 29 = .ok (.getfield 76, 3) := dd211_28.2.1
theorem d211_32 : decode prog_14_method_86_code 32 = .ok (.iload_n 3, 1) := dd211_28.2.2.1
theorem d211_33 : decode prog_14_method_86_code 33 = .ok (.iaload, 1) := dd211_28.2.2.2.1
theorem d211_34 : decode prog_14_method_86_code 34 = .ok (.iconst (-1), 1) := dd211_28.2.2.2.2.1
theorem d211_35 : decode prog_14_method_86_code 35 = .ok (.if_icmp .ne 6, 3) := dd211_28.2.2.2.2.2.1
theorem d211_38 : decode prog_14_method_86_code 38 = .ok (.bipush (-11), 2) := dd211_28.2.2.2.2.2.2.1
theorem d211_40 : decode prog_14_method_86_code 40 = .ok (.ireturn, 1) := dd211_28.2.2.2.2.2.2.2.1
theorem d211_41 : decode prog_14_method_86_code 41 = .ok (.aload_n 0, 1) := dd211_28.2.2.2.2.2.2.2.2.1
theorem d211_42 : decode prog_14_method_86_code 42 = .ok (.getfield 76, 3) := dd211_28.2.2.2.2.2.2.2.2.2.1
theorem d211_45 : decode prog_14_method_86_code 45 = .ok (.iload_n 1, 1) := dd211_28.2.2.2.2.2.2.2.2.2.2.1
theorem d211_46 : decode prog_14_method_86_code 46 = .ok (.iaload, 1) := dd211_28.2.2.2.2.2.2.2.2.2.2.2.1
theorem d211_47 : decode prog_14_method_86_code 47 = .ok (.aload_n 0, 1) := dd211_28.2.2.2.2.2.2.2.2.2.2.2.2.1
theorem d211_48 : decode prog_14_method_86_code 48 = .ok (.getfield 76, 3) := dd211_28.2.2.2.2.2.2.2.2.2.2.2.2.2.1
theorem d211_51 : decode prog_14_method_86_code 51 = .ok (.iload_n 3, 1) := dd211_28.2.2.2.2.2.2.2.2.2.2.2.2.2.2.1
theorem d211_52 : decode prog_14_method_86_code 52 = .ok (.iaload, 1) := dd211_28.2.2.2.2.2.2.2.2.2.2.2.2.2.2.2
theorem dd211_53 : (decode prog_14_method_86_code 53 = .ok (.if_icmp .eq 6, 3)) ∧ (decode prog_14_method_86_code 56 = .ok (.bipush (-12), 2)) ∧ (decode prog_14_method_86_code 58 = .ok (.ireturn, 1)) ∧ (decode prog_14_method_86_code 59 = .ok (.iload 5, 2)) ∧ (decode prog_14_method_86_code 61 = .ok (.ifCond .lt 60, 3)) ∧ (decode prog_14_method_86_code 64 = .ok (.iload_n 2, 1)) ∧ (decode prog_14_method_86_code 65 = .ok (.ifCond .lt 56, 3)) ∧ (decode prog_14_method_86_code 68 = .ok (.iload 4, 2)) ∧ (decode prog_14_method_86_code 70 = .ok (.ifCond .lt 51, 3)) ∧ (decode prog_14_method_86_code 73 = .ok (.iload_n 2, 1)) ∧ (decode prog_14_method_86_code 74 = .ok (.aload_n 0, 1)) ∧ (decode prog_14_method_86_code 75 = .ok (.getfield 79, 3)) ∧ (decode prog_14_method_86_code 78 = .ok (.iload_n 1, 1)) ∧ (decode prog_14_method_86_code 79 = .ok (.iaload, 1)) ∧ (decode prog_14_method_86_code 80 = .ok (.if_icmp .gt 41, 3)) ∧ (decode prog_14_method_86_code 83 = .ok (.iload 4, 2)) := by decide +kernel
theorem d211_53 : decode prog_14_method_86_code 53 = .ok (.if_icmp .eq 6, 3) := dd211_53.1
theorem d211_56 : decode prog_14_method_86_code 56 = .ok (.bipush (-12), 2) := dd211_53.2.1
theorem d211_58 : decode prog_14_method_86_code 58 = .ok (.ireturn, 1) := dd211_53.2.2.1
theorem d211_59 : decode prog_14_method_86_code 59 = .ok (.iload 5, 2) := dd211_53.2.2.2.1
theorem d211_61 : decode prog_14_method_86_code 61 = .ok (.ifCond .lt 60, 3) := dd211_53.2.2.2.2.1
theorem d211_64 : decode prog_14_method_86_code 64 = .ok (.iload_n 2, 1) := dd211_53.2.2.2.2.2.1
theorem d211_65 : decode prog_14_method_86_code 65 = .ok (.ifCond .lt 56, 3) := dd211_53.2.2.2.2.2.2.1
theorem d211_68 : decode prog_14_method_86_code 68 = .ok (.iload 4, 2) := dd211_53.2.2.2.2.2.2.2.1
theorem d211_70 : decode prog_14_method_86_code 70 = .ok (.ifCond .lt 51, 3) := dd211_53.2.2.2.2.2.2.2.2.1
theorem d211_73 : decode prog_14_method_86_code 73 = .ok (.iload_n 2, 1) := dd211_53.2.2.2.2.2.2.2.2.2.1
theorem d211_74 : decode prog_14_method_86_code 74 = .ok (.aload_n 0, 1) := dd211_53.2.2.2.2.2.2.2.2.2.2.1
theorem d211_75 : decode prog_14_method_86_code 75 = .ok (.getfield 79, 3) := dd211_53.2.2.2.2.2.2.2.2.2.2.2.1
theorem d211_78 : decode prog_14_method_86_code 78 = .ok (.iload_n 1, 1) := dd211_53.2.2.2.2.2.2.2.2.2.2.2.2.1
theorem d211_79 : decode prog_14_method_86_code 79 = .ok (.iaload, 1) := dd211_53.2.2.2.2.2.2.2.2.2.2.2.2.2.1
theorem d211_80 : decode prog_14_method_86_code 80 = .ok (.if_icmp .gt 41, 3) := dd211_53.2.2.2.2.2.2.2.2.2.2.2.2.2.2.1
theorem d211_83 : decode prog_14_method_86_code 83 = .ok (.iload 4, 2) := dd211_53.2.2.2.2.2.2.2.2.2.2.2.2.2.2.2
theorem dd211_85 : (decode prog_14_method_86_code 85 = .ok (.aload_n 0, 1)) ∧ (decode prog_14_method_86_code 86 = .ok (.getfield 79, 3)) ∧ (decode prog_14_method_86_code 89 = .ok (.iload_n 3, 1)) ∧ (decode prog_14_method_86_code 90 = .ok (.iaload, 1)) ∧ (decode prog_14_method_86_code 91 = .ok (.if_icmp .gt 30, 3)) ∧ (decode prog_14_method_86_code 94 = .ok (.iload 5, 2)) ∧ (decode prog_14_method_86_code 96 = .ok (.aload_n 0, 1)) ∧ (decode prog_14_method_86_code 97 = .ok (.getfield 79, 3)) ∧ (decode prog_14_method_86_code 100 = .ok (.iload_n 1, 1)) ∧ (decode prog_14_method_86_code 101 = .ok (.iaload, 1)) ∧ (decode prog_14_method_86_code 102 = .ok (.iload_n 2, 1)) ∧ (decode prog_14_method_86_code 103 = .ok (.isub, 1)) ∧ (decode prog_14_method_86_code 104 = .ok (.if_icmp .gt 17, 3)) ∧ (decode prog_14_method_86_code 107 = .ok (.iload 5, 2)) ∧ (decode prog_14_method_86_code 109 = .ok (.aload_n 0, 1)) ∧ (decode prog_14_method_86_code 110 = .ok (.getfield 79, 3)) := by decide +kernel
theorem d211_85 : decode prog_14_method_86_code 85 = .ok (.aload_n 0, 1) := dd211_85.1
theorem d211_86 : decode prog_14_method_86_code 86 = .ok (.getfield 79, 3) := dd211_85.2.1
theorem d211_89 : decode prog_14_method_86_code 89 = .ok (.iload_n 3, 1) := dd211_85.2.2.1
theorem d211_90 : decode prog_14_method_86_code 90 = .ok (.iaload, 1) := dd211_85.2.2.2.1
theorem d211_91 : decode prog_14_method_86_code 91 = .ok (.if_icmp .gt 30, 3) := dd211_85.2.2.2.2.1
theorem d211_94 : decode prog_14_method_86_code 94 = .ok (.iload 5, 2) := dd211_85.2.2.2.2.2.1
theorem d211_96 : decode prog_14_method_86_code 96 = .ok (.aload_n 0, 1) := dd211_85.2.2.2.2.2.2.1
theorem d211_97 : decode prog_14_method_86_code 97 = .ok (.getfield 79, 3) := dd211_85.2.2.2.2.2.2.2.1
theorem d211_100 : decode prog_14_method_86_code 100 = .ok (.iload_n 1, 1) := dd211_85.2.2.2.2.2.2.2.2.1
theorem d211_101 : decode prog_14_method_86_code 101 = .ok (.iaload, 1) := dd211_85.2.2.2.2.2.2.2.2.2.1
theorem d211_102 : decode prog_14_method_86_code 102 = .ok (.iload_n 2, 1) := dd211_85.2.2.2.2.2.2.2.2.2.2.1
theorem d211_103 : decode prog_14_method_86_code 103 = .ok (.isub, 1) := dd211_85.2.2.2.2.2.2.2.2.2.2.2.1
theorem d211_104 : decode prog_14_method_86_code 104 = .ok (.if_icmp .gt 17, 3) := dd211_85.2.2.2.2.2.2.2.2.2.2.2.2.1
theorem d211_107 : decode prog_14_method_86_code 107 = .ok (.iload 5, 2) := dd211_85.2.2.2.2.2.2.2.2.2.2.2.2.2.1
theorem d211_109 : decode prog_14_method_86_code 109 = .ok (.aload_n 0, 1) := dd211_85.2.2.2.2.2.2.2.2.2.2.2.2.2.2.1
theorem d211_110 : decode prog_14_method_86_code 110 = .ok (.getfield 79, 3) := dd211_85.2.2.2.2.2.2.2.2.2.2.2.2.2.2.2
theorem dd211_113 : (decode prog_14_method_86_code 113 = .ok (.iload_n 3, 1)) ∧ (decode prog_14_method_86_code 114 = .ok (.iaload, 1)) ∧ (decode prog_14_method_86_code 115 = .ok (.iload 4, 2)) ∧ (decode prog_14_method_86_code 117 = .ok (.isub, 1)) ∧ (decode prog_14_method_86_code 118 = .ok (.if_icmp .le 6, 3)) ∧ (decode prog_14_method_86_code 121 = .ok (.bipush (-13), 2)) ∧ (decode prog_14_method_86_code 123 = .ok (.ireturn, 1)) ∧ (decode prog_14_method_86_code 124 = .ok (.iconst 0, 1)) ∧ (decode prog_14_method_86_code 125 = .ok (.istore 6, 2)) ∧ (decode prog_14_method_86_code 127 = .ok (.iload 6, 2)) ∧ (decode prog_14_method_86_code 129 = .ok (.iload 5, 2)) ∧ (decode prog_14_method_86_code 131 = .ok (.if_icmp .ge 30, 3)) ∧ (decode prog_14_method_86_code 134 = .ok (.aload_n 0, 1)) ∧ (decode prog_14_method_86_code 135 = .ok (.getfield 156, 3)) ∧ (decode prog_14_method_86_code 138 = .ok (.iload 6, 2)) ∧ (decode prog_14_method_86_code 140 = .ok (.aload_n 0, 1)) := by decide +kernel
theorem d211_113 : decode prog_14_method_86_code 113 = .ok (.iload_n 3, 1) := dd211_113.1
theorem d211_114 : decode prog_14_method_86_code 114 = .ok (.iaload, 1) := dd211_113.2.1
theorem d211_115 : decode prog_14_method_86_code 115 = .ok (.iload 4, 2) := dd211_113.2.2.1
theorem d211_117 : decode prog_14_method_86_code 117 = .ok (.isub, 1) := dd211_113.2.2.2.1
theorem d211_118 : decode prog_14_method_86_code 118 = .ok (.if_icmp .le 6, 3) := dd211_113.2.2.2.2.1
theorem d211_121 : decode prog_14_method_86_code 121 = .ok (.bipush (-13), 2) := dd211_113.2.2.2.2.2.1
theorem d211_123 : decode prog_14_method_86_code 123 = .ok (.ireturn, 1) := dd211_113.2.2.2.2.2.2.1
theorem d211_124 : decode prog_14_method_86_code 124 = .ok (.iconst 0, 1) := dd211_113.2.2.2.2.2.2.2.1
theorem d211_125 : decode prog_14_method_86_code 125 = .ok (.istore 6, 2) := dd211_113.2.2.2.2.2.2.2.2.1
theorem d211_127 : decode prog_14_method_86_code 127 = .ok (.iload 6, 2) := dd211_113.2.2.2.2.2.2.2.2.2.1
theorem d211_129 : decode prog_14_method_86_code 129 = .ok (.iload 5, 2) := dd211_113.2.2.2.2.2.2.2.2.2.2.1
theorem d211_131 : decode prog_14_method_86_code 131 = .ok (.if_icmp .ge 30, 3) := dd211_113.2.2.2.2.2.2.2.2.2.2.2.1
theorem d211_134 : decode prog_14_method_86_code 134 = .ok (.aload_n 0, 1) := dd211_113.2.2.2.2.2.2.2.2.2.2.2.2.1
theorem d211_135 : decode prog_14_method_86_code 135 = .ok (.getfield 156, 3) := dd211_113.2.2.2.2.2.2.2.2.2.2.2.2.2.1
theorem d211_138 : decode prog_14_method_86_code 138 = .ok (.iload 6, 2) := dd211_113.2.2.2.2.2.2.2.2.2.2.2.2.2.2.1
theorem d211_140 : decode prog_14_method_86_code 140 = .ok (.aload_n 0, 1) := dd211_113.2.2.2.2.2.2.2.2.2.2.2.2.2.2.2
theorem dd211_141 : (decode prog_14_method_86_code 141 = .ok (.getfield 82, 3)) ∧ (decode prog_14_method_86_code 144 = .ok (.bipush 60, 2)) ∧ (decode prog_14_method_86_code 146 = .ok (.iload_n 1, 1)) ∧ (decode prog_14_method_86_code 147 = .ok (.imul, 1)) ∧ (decode prog_14_method_86_code 148 = .ok (.iload_n 2, 1)) ∧ (decode prog_14_method_86_code 149 = .ok (.iadd, 1)) ∧ (decode prog_14_method_86_code 150 = .ok (.iload 6, 2)) ∧ (decode prog_14_method_86_code 152 = .ok (.iadd, 1)) ∧ (decode prog_14_method_86_code 153 = .ok (.laload, 1)) ∧ (decode prog_14_method_86_code 154 = .ok (.lastore, 1)) ∧ (decode prog_14_method_86_code 155 = .ok (.iinc 6 1, 3)) ∧ (decode prog_14_method_86_code 158 = .ok (.goto (-31), 3)) ∧ (decode prog_14_method_86_code 161 = .ok (.iconst 0, 1)) ∧ (decode prog_14_method_86_code 162 = .ok (.istore 6, 2)) ∧ (decode prog_14_method_86_code 164 = .ok (.iload 6, 2)) ∧ (decode prog_14_method_86_code 166 = .ok (.iload 5, 2)) := by decide +kernel
theorem d211_141 : decode prog_14_method_86_code 141 = .ok (.getfield 82, 3) := dd211_141.1
theorem d211_144 : decode prog_14_method_86_code 144 = .ok (.bipush 60, 2) := dd211_141.2.1
theorem d211_146 : decode prog_14_method_86_code 146 = .ok (.iload_n 1, 1) := dd211_141.2.2.1
theorem d211_147 : decode prog_14_method_86_code 147 = .ok (.imul, 1) := dd211_141.2.2.2.1
theorem d211_148 : decode prog_14_method_86_code 148 = .ok (.iload_n 2, 1) := dd211_141.2.2.2.2.1
theorem d211_149 : decode prog_14_method_86_code 149 = .ok (.iadd, 1) := dd211_141.2.2.2.2.2.1
theorem d211_150 : decode prog_14_method_86_code 150 = .ok (.iload 6, 2) := dd211_141.2.2.2.2.2.2.1
theorem d211_152 : decode prog_14_method_86_code 152 = .ok (.iadd, 1) := dd211_141.2.2.2.2.2.2.2.1
theorem d211_153 : decode prog_14_method_86_code 153 = .ok (.laload, 1) := dd211_141.2.2.2.2.2.2.2.2.1
theorem d211_154 : decode prog_14_method_86_code 154 = .ok (.lastore, 1) := dd211_141.2.2.2.2.2.2.2.2.2.1
theorem d211_155 : decode prog_14_method_86_code 155 = .ok (.iinc 6 1, 3) := dd211_141.2.2.2.2.2.2.2.2.2.2.1
theorem d211_158 : decode prog_14_method_86_code 158 = .ok (.goto (-31), 3) := dd211_141.2.2.2.2.2.2.2.2.2.2.2.1
theorem d211_161 : decode prog_14_method_86_code 161 = .ok (.iconst 0, 1) := dd211_141.2.2.2.2.2.2.2.2.2.2.2.2.1
theorem d211_162 : decode prog_14_method_86_code 162 = .ok (.istore 6, 2) := dd211_141.2.2.2.2.2.2.2.2.2.2.2.2.2.1
theorem d211_164 : decode prog_14_method_86_code 164 = .ok (.iload 6, 2) := dd211_141.2.2.2.2.2.2.2.2.2.2.2.2.2.2.1
theorem d211_166 : decode prog_14_method_86_code 166 = .ok (.iload 5, 2) := dd211_141.2.2.2.2.2.2.2.2.2.2.2.2.2.2.2
theorem dd211_168 : (decode prog_14_method_86_code 168 = .ok (.if_icmp .ge 31, 3)) ∧ (decode prog_14_method_86_code 171 = .ok (.aload_n 0, 1)) ∧ (decode prog_14_method_86_code 172 = .ok (.getfield 82, 3)) ∧ (decode prog_14_method_86_code 175 = .ok (.bipush 60, 2)) ∧ (decode prog_14_method_86_code 177 = .ok (.iload_n 3, 1)) ∧ (decode prog_14_method_86_code 178 = .ok (.imul, 1)) ∧ (decode prog_14_method_86_code 179 = .ok (.iload 4, 2)) ∧ (decode prog_14_method_86_code 181 = .ok (.iadd, 1)) ∧ (decode prog_14_method_86_code 182 = .ok (.iload 6, 2)) ∧ (decode prog_14_method_86_code 184 = .ok (.iadd, 1)) ∧ (decode prog_14_method_86_code 185 = .ok (.aload_n 0, 1)) ∧ (decode prog_14_method_86_code 186 = .ok (.getfield 156, 3)) ∧ (decode prog_14_method_86_code 189 = .ok (.iload 6, 2)) ∧ (decode prog_14_method_86_code 191 = .ok (.laload, 1)) ∧ (decode prog_14_method_86_code 192 = .ok (.lastore, 1)) ∧ (decode prog_14_method_86_code 193 = .ok (.iinc 6 1, 3)) := by decide +kernel
theorem d211_168 : decode prog_14_method_86_code 168 = .ok (.if_icmp .ge 31, 3) := dd211_168.1
theorem d211_171 : decode prog_14_method_86_code 171 = .ok (.aload_n 0, 1) := dd211_168.2.1
theorem d211_172 : decode prog_14_method_86_code 172 = .ok (.getfield 82, 3) := dd211_168.2.2.1
theorem d211_175 : decode prog_14_method_86_code 175 = .ok (.bipush 60, 2) := dd211_168.2.2.2.1
theorem d211_177 : decode prog_14_method_86_code 177 = .ok (.iload_n 3, 1) := dd211_168.2.2.2.2.1
theorem d211_178 : decode prog_14_method_86_code 178 = .ok (.imul, 1) := dd211_168.2.2.2.2.2.1
theorem d211_179 : decode prog_14_method_86_code 179 = .ok (.iload 4, 2) := dd211_168.2.2.2.2.2.2.1
theorem d211_181 : decode prog_14_method_86_code 181 = .ok (.iadd, 1) := dd211_168.2.2.2.2.2.2.2.1
theorem d211_182 : decode prog_14_method_86_code 182 = .ok (.iload 6, 2) := dd211_168.2.2.2.2.2.2.2.2.1
theorem d211_184 : decode prog_14_method_86_code 184 = .ok (.iadd, 1) := dd211_168.2.2.2.2.2.2.2.2.2.1
theorem d211_185 : decode prog_14_method_86_code 185 = .ok (.aload_n 0, 1) := dd211_168.2.2.2.2.2.2.2.2.2.2.1
theorem d211_186 : decode prog_14_method_86_code 186 = .ok (.getfield 156, 3) := dd211_168.2.2.2.2.2.2.2.2.2.2.2.1
theorem d211_189 : decode prog_14_method_86_code 189 = .ok (.iload 6, 2) := dd211_168.2.2.2.2.2.2.2.2.2.2.2.2.1
theorem d211_191 : decode prog_14_method_86_code 191 = .ok (.laload, 1) := dd211_168.2.2.2.2.2.2.2.2.2.2.2.2.2.1
theorem d211_192 : decode prog_14_method_86_code 192 = .ok (.lastore, 1) := dd211_168.2.2.2.2.2.2.2.2.2.2.2.2.2.2.1
theorem d211_193 : decode prog_14_method_86_code 193 = .ok (.iinc 6 1, 3) := dd211_168.2.2.2.2.2.2.2.2.2.2.2.2.2.2.2
theorem dd211_196 : (decode prog_14_method_86_code 196 = .ok (.goto (-32), 3)) ∧ (decode prog_14_method_86_code 199 = .ok (.iload 5, 2)) ∧ (decode prog_14_method_86_code 201 = .ok (.ireturn, 1)) := by decide +kernel
theorem d211_196 : decode prog_14_method_86_code 196 = .ok (.goto (-32), 3) := dd211_196.1
theorem d211_199 : decode prog_14_method_86_code 199 = .ok (.iload 5, 2) := dd211_196.2.1
theorem d211_201 : decode prog_14_method_86_code 201 = .ok (.ireturn, 1) := dd211_196.2.2
theorem b211_0 {d : Nat} {S : mm_S} {a0 : Nat} {x1 : Int32} {x2 : Int32} {x3 : Int32} {x4 : Int32} {x5 : Int32} (h0 : mm_rk S a0 = 12) : mm_ex (d + 1) 211 0 [.ref a0, .int x1, .int x2, .int x3, .int x4, .int x5, .null] [] S =
    mm_bd (mm_cl d 194 [.ref a0, .int x1] S) (fun v S2 => mm_ex (d + 1) 211 5 [.ref a0, .int x1, .int x2, .int x3, .int x4, .int x5, .null] (v.toList ++ []) S2) :=
  Eq.trans (mx_aload_n t211 d211_0 (x := a0) rfl) <|
  Eq.trans (mx_iload_n t211 d211_1 (x := x1) rfl) <|
  (mx_virt (st := []) (k := 12) t211 [.int x1] d211_2 vt12_368 rfl rfl (Nat.le_of_ble_eq_true rfl) (Nat.le_of_ble_eq_true rfl) h0)
theorem b211_5 {d : Nat} {S : mm_S} {a0 : Nat} {x1 : Int32} {x2 : Int32} {x3 : Int32} {x4 : Int32} {x5 : Int32} {p0 : Int32} : mm_ex d 211 5 [.ref a0, .int x1, .int x2, .int x3, .int x4, .int x5, .null] [.int p0] S =
    if p0 = nI 0 then mm_ex d 211 16 [.ref a0, .int x1, .int x2, .int x3, .int x4, .int x5, .null] [] S else mm_ex d 211 8 [.ref a0, .int x1, .int x2, .int x3, .int x4, .int x5, .null] [] S :=
  (mx_ieq t211 d211_5 (tgt := 16) (by decide))
theorem b211_8 {d : Nat} {S : mm_S} {a0 : Nat} {x1 : Int32} {x2 : Int32} {x3 : Int32} {x4 : Int32} {x5 : Int32} (h0 : mm_rk S a0 = 12) : mm_ex (d + 1) 211 8 [.ref a0, .int x1, .int x2, .int x3, .int x4, .int x5, .null] [] S =
    mm_bd (mm_cl d 194 [.ref a0, .int x3] S) (fun v S2 => mm_ex (d + 1) 211 13 [.ref a0, .int x1, .int x2, .int x3, .int x4, .int x5, .null] (v.toList ++ []) S2) :=
  Eq.trans (mx_aload_n t211 d211_8 (x := a0) rfl) <|
  Eq.trans (mx_iload_n t211 d211_9 (x := x3) rfl) <|
  (mx_virt (st := []) (k := 12) t211 [.int x3] d211_10 vt12_368 rfl rfl (Nat.le_of_ble_eq_true rfl) (Nat.le_of_ble_eq_true rfl) h0)
theorem b211_13 {d : Nat} {S : mm_S} {a0 : Nat} {x1 : Int32} {x2 : Int32} {x3 : Int32} {x4 : Int32} {x5 : Int32} {p0 : Int32} : mm_ex d 211 13 [.ref a0, .int x1, .int x2, .int x3, .int x4, .int x5, .null] [.int p0] S =
    if p0 = nI 0 then mm_ex d 211 16 [.ref a0, .int x1, .int x2, .int x3, .int x4, .int x5, .null] [] S else mm_ex d 211 18 [.ref a0, .int x1, .int x2, .int x3, .int x4, .int x5, .null] [] S :=
  (mx_ine t211 d211_13 (tgt := 18) (by decide))
theorem b211_16 {d : Nat} {S : mm_S} {a0 : Nat} {x1 : Int32} {x2 : Int32} {x3 : Int32} {x4 : Int32} {x5 : Int32} : mm_ex d 211 16 [.ref a0, .int x1, .int x2, .int x3, .int x4, .int x5, .null] [] S =
    some (some (.int (-1)), S) :=
  Eq.trans (mx_iconst t211 d211_16 (v := -1) rfl) <|
  (mx_iret t211 d211_17 (ty := .int) rfl rfl (fun h => nomatch h))
theorem b211_18 {d : Nat} {S : mm_S} {a0 : Nat} {x1 : Int32} {x2 : Int32} {x3 : Int32} {x4 : Int32} {x5 : Int32} (h0 : mm_obj S a0 12 = true) (h1 : (mm_R S a0 30).isSome = true) (h2 : mm_inb x1 (mm_N S (mm_rg S a0 30)) = true) (h3 : mm_arr S (mm_rg S a0 30) 13 = true) : mm_ex d 211 18 [.ref a0, .int x1, .int x2, .int x3, .int x4, .int x5, .null] [] S =
    if (mm_M S (mm_rg S a0 30) (x1).toNatClampNeg) = (-1) then mm_ex d 211 38 [.ref a0, .int x1, .int x2, .int x3, .int x4, .int x5, .null] [] S else mm_ex d 211 28 [.ref a0, .int x1, .int x2, .int x3, .int x4, .int x5, .null] [] S :=
  Eq.trans (mx_aload_n t211 d211_18 (x := a0) rfl) <|
  Eq.trans (mx_getR t211 d211_19 rfl fl12_76 h0 h1) <|
  Eq.trans (mx_iload_n t211 d211_22 (x := x1) rfl) <|
  Eq.trans (mx_iald t211 d211_23 h3 h2) <|
  Eq.trans (mx_iconst t211 d211_24 (v := -1) rfl) <|
  (mx_ceq t211 d211_25 (tgt := 38) (by decide))
theorem b211_28 {d : Nat} {S : mm_S} {a0 : Nat} {x1 : Int32} {x2 : Int32} {x3 : Int32} {x4 : Int32} {x5 : Int32} (h0 : mm_obj S a0 12 = true) (h1 : (mm_R S a0 30).isSome = true) (h2 : mm_inb x3 (mm_N S (mm_rg S a0 30)) = true) (h3 : mm_arr S (mm_rg S a0 30) 13 = true) : mm_ex d 211 28 [.ref a0, .int x1, .int x2, .int x3, .int x4, .int x5, .null] [] S =
    if (mm_M S (mm_rg S a0 30) (x3).toNatClampNeg) = (-1) then mm_ex d 211 38 [.ref a0, .int x1, .int x2, .int x3, .int x4, .int x5, .null] [] S else mm_ex d 211 41 [.ref a0, .int x1, .int x2, .int x3, .int x4, .int x5, .null] [] S :=
  Eq.trans (mx_aload_n t211 d211_28 (x := a0) rfl) <|
  Eq.trans (mx_getR t211 d211_29 rfl fl12_76 h0 h1) <|
  Eq.trans (mx_iload_n t211 d211_32 (x := x3) rfl) <|
  Eq.trans (mx_iald t211 d211_33 h3 h2) <|
  Eq.trans (mx_iconst t211 d211_34 (v := -1) rfl) <|
  (mx_cne t211 d211_35 (tgt := 41) (by decide))
theorem b211_38 {d : Nat} {S : mm_S} {a0 : Nat} {x1 : Int32} {x2 : Int32} {x3 : Int32} {x4 : Int32} {x5 : Int32} : mm_ex d 211 38 [.ref a0, .int x1, .int x2, .int x3, .int x4, .int x5, .null] [] S =
    some (some (.int (-11)), S) :=
  Eq.trans (mx_bipush t211 d211_38 (v := -11) rfl) <|
  (mx_iret t211 d211_40 (ty := .int) rfl rfl (fun h => nomatch h))
theorem b211_41 {d : Nat} {S : mm_S} {a0 : Nat} {x1 : Int32} {x2 : Int32} {x3 : Int32} {x4 : Int32} {x5 : Int32} (h0 : mm_obj S a0 12 = true) (h1 : (mm_R S a0 30).isSome = true) (h2 : mm_inb x1 (mm_N S (mm_rg S a0 30)) = true) (h3 : mm_arr S (mm_rg S a0 30) 13 = true) (h4 : mm_inb x3 (mm_N S (mm_rg S a0 30)) = true) : mm_ex d 211 41 [.ref a0, .int x1, .int x2, .int x3, .int x4, .int x5, .null] [] S =
    if (mm_M S (mm_rg S a0 30) (x1).toNatClampNeg) = (mm_M S (mm_rg S a0 30) (x3).toNatClampNeg) then mm_ex d 211 59 [.ref a0, .int x1, .int x2, .int x3, .int x4, .int x5, .null] [] S else mm_ex d 211 56 [.ref a0, .int x1, .int x2, .int x3, .int x4, .int x5, .null] [] S :=
  Eq.trans (mx_aload_n t211 d211_41 (x := a0) rfl) <|
  Eq.trans (mx_getR t211 d211_42 rfl fl12_76 h0 h1) <|
  Eq.trans (mx_iload_n t211 d211_45 (x := x1) rfl) <|
  Eq.trans (mx_iald t211 d211_46 h3 h2) <|
  Eq.trans (mx_aload_n t211 d211_47 (x := a0) rfl) <|
  Eq.trans (mx_getR t211 d211_48 rfl fl12_76 h0 h1) <|
  Eq.trans (mx_iload_n t211 d211_51 (x := x3) rfl) <|
  Eq.trans (mx_iald t211 d211_52 h3 h4) <|
  (mx_ceq t211 d211_53 (tgt := 59) (by decide))
theorem b211_56 {d : Nat} {S : mm_S} {a0 : Nat} {x1 : Int32} {x2 : Int32} {x3 : Int32} {x4 : Int32} {x5 : Int32} : mm_ex d 211 56 [.ref a0, .int x1, .int x2, .int x3, .int x4, .int x5, .null] [] S =
    some (some (.int (-12)), S) :=
  Eq.trans (mx_bipush t211 d211_56 (v := -12) rfl) <|
  (mx_iret t211 d211_58 (ty := .int) rfl rfl (fun h => nomatch h))
theorem b211_59 {d : Nat} {S : mm_S} {a0 : Nat} {x1 : Int32} {x2 : Int32} {x3 : Int32} {x4 : Int32} {x5 : Int32} : mm_ex d 211 59 [.ref a0, .int x1, .int x2, .int x3, .int x4, .int x5, .null] [] S =
    if x5 < nI 0 then mm_ex d 211 121 [.ref a0, .int x1, .int x2, .int x3, .int x4, .int x5, .null] [] S else mm_ex d 211 64 [.ref a0, .int x1, .int x2, .int x3, .int x4, .int x5, .null] [] S :=
  Eq.trans (mx_iload t211 d211_59 (x := x5) rfl) <|
  (mx_ilt t211 d211_61 (tgt := 121) (by decide))
theorem b211_64 {d : Nat} {S : mm_S} {a0 : Nat} {x1 : Int32} {x2 : Int32} {x3 : Int32} {x4 : Int32} {x5 : Int32} : mm_ex d 211 64 [.ref a0, .int x1, .int x2, .int x3, .int x4, .int x5, .null] [] S =
    if x2 < nI 0 then mm_ex d 211 121 [.ref a0, .int x1, .int x2, .int x3, .int x4, .int x5, .null] [] S else mm_ex d 211 68 [.ref a0, .int x1, .int x2, .int x3, .int x4, .int x5, .null] [] S :=
  Eq.trans (mx_iload_n t211 d211_64 (x := x2) rfl) <|
  (mx_ilt t211 d211_65 (tgt := 121) (by decide))
theorem b211_68 {d : Nat} {S : mm_S} {a0 : Nat} {x1 : Int32} {x2 : Int32} {x3 : Int32} {x4 : Int32} {x5 : Int32} : mm_ex d 211 68 [.ref a0, .int x1, .int x2, .int x3, .int x4, .int x5, .null] [] S =
    if x4 < nI 0 then mm_ex d 211 121 [.ref a0, .int x1, .int x2, .int x3, .int x4, .int x5, .null] [] S else mm_ex d 211 73 [.ref a0, .int x1, .int x2, .int x3, .int x4, .int x5, .null] [] S :=
  Eq.trans (mx_iload t211 d211_68 (x := x4) rfl) <|
  (mx_ilt t211 d211_70 (tgt := 121) (by decide))
theorem b211_73 {d : Nat} {S : mm_S} {a0 : Nat} {x1 : Int32} {x2 : Int32} {x3 : Int32} {x4 : Int32} {x5 : Int32} (h0 : mm_obj S a0 12 = true) (h1 : (mm_R S a0 31).isSome = true) (h2 : mm_inb x1 (mm_N S (mm_rg S a0 31)) = true) (h3 : mm_arr S (mm_rg S a0 31) 13 = true) : mm_ex d 211 73 [.ref a0, .int x1, .int x2, .int x3, .int x4, .int x5, .null] [] S =
    if (mm_M S (mm_rg S a0 31) (x1).toNatClampNeg) < x2 then mm_ex d 211 121 [.ref a0, .int x1, .int x2, .int x3, .int x4, .int x5, .null] [] S else mm_ex d 211 83 [.ref a0, .int x1, .int x2, .int x3, .int x4, .int x5, .null] [] S :=
  Eq.trans (mx_iload_n t211 d211_73 (x := x2) rfl) <|
  Eq.trans (mx_aload_n t211 d211_74 (x := a0) rfl) <|
  Eq.trans (mx_getR t211 d211_75 rfl fl12_79 h0 h1) <|
  Eq.trans (mx_iload_n t211 d211_78 (x := x1) rfl) <|
  Eq.trans (mx_iald t211 d211_79 h3 h2) <|
  (mx_cgt t211 d211_80 (tgt := 121) (by decide))
theorem b211_83 {d : Nat} {S : mm_S} {a0 : Nat} {x1 : Int32} {x2 : Int32} {x3 : Int32} {x4 : Int32} {x5 : Int32} (h0 : mm_obj S a0 12 = true) (h1 : (mm_R S a0 31).isSome = true) (h2 : mm_inb x3 (mm_N S (mm_rg S a0 31)) = true) (h3 : mm_arr S (mm_rg S a0 31) 13 = true) : mm_ex d 211 83 [.ref a0, .int x1, .int x2, .int x3, .int x4, .int x5, .null] [] S =
    if (mm_M S (mm_rg S a0 31) (x3).toNatClampNeg) < x4 then mm_ex d 211 121 [.ref a0, .int x1, .int x2, .int x3, .int x4, .int x5, .null] [] S else mm_ex d 211 94 [.ref a0, .int x1, .int x2, .int x3, .int x4, .int x5, .null] [] S :=
  Eq.trans (mx_iload t211 d211_83 (x := x4) rfl) <|
  Eq.trans (mx_aload_n t211 d211_85 (x := a0) rfl) <|
  Eq.trans (mx_getR t211 d211_86 rfl fl12_79 h0 h1) <|
  Eq.trans (mx_iload_n t211 d211_89 (x := x3) rfl) <|
  Eq.trans (mx_iald t211 d211_90 h3 h2) <|
  (mx_cgt t211 d211_91 (tgt := 121) (by decide))
theorem b211_94 {d : Nat} {S : mm_S} {a0 : Nat} {x1 : Int32} {x2 : Int32} {x3 : Int32} {x4 : Int32} {x5 : Int32} (h0 : mm_obj S a0 12 = true) (h1 : (mm_R S a0 31).isSome = true) (h2 : mm_inb x1 (mm_N S (mm_rg S a0 31)) = true) (h3 : mm_arr S (mm_rg S a0 31) 13 = true) : mm_ex d 211 94 [.ref a0, .int x1, .int x2, .int x3, .int x4, .int x5, .null] [] S =
    if ((mm_M S (mm_rg S a0 31) (x1).toNatClampNeg) - x2) < x5 then mm_ex d 211 121 [.ref a0, .int x1, .int x2, .int x3, .int x4, .int x5, .null] [] S else mm_ex d 211 107 [.ref a0, .int x1, .int x2, .int x3, .int x4, .int x5, .null] [] S :=
  Eq.trans (mx_iload t211 d211_94 (x := x5) rfl) <|
  Eq.trans (mx_aload_n t211 d211_96 (x := a0) rfl) <|
  Eq.trans (mx_getR t211 d211_97 rfl fl12_79 h0 h1) <|
  Eq.trans (mx_iload_n t211 d211_100 (x := x1) rfl) <|
  Eq.trans (mx_iald t211 d211_101 h3 h2) <|
  Eq.trans (mx_iload_n t211 d211_102 (x := x2) rfl) <|
  Eq.trans (mx_isub t211 d211_103) <|
  (mx_cgt t211 d211_104 (tgt := 121) (by decide))
theorem b211_107 {d : Nat} {S : mm_S} {a0 : Nat} {x1 : Int32} {x2 : Int32} {x3 : Int32} {x4 : Int32} {x5 : Int32} (h0 : mm_obj S a0 12 = true) (h1 : (mm_R S a0 31).isSome = true) (h2 : mm_inb x3 (mm_N S (mm_rg S a0 31)) = true) (h3 : mm_arr S (mm_rg S a0 31) 13 = true) : mm_ex d 211 107 [.ref a0, .int x1, .int x2, .int x3, .int x4, .int x5, .null] [] S =
    if x5 ≤ ((mm_M S (mm_rg S a0 31) (x3).toNatClampNeg) - x4) then mm_ex d 211 124 [.ref a0, .int x1, .int x2, .int x3, .int x4, .int x5, .null] [] S else mm_ex d 211 121 [.ref a0, .int x1, .int x2, .int x3, .int x4, .int x5, .null] [] S :=
  Eq.trans (mx_iload t211 d211_107 (x := x5) rfl) <|
  Eq.trans (mx_aload_n t211 d211_109 (x := a0) rfl) <|
  Eq.trans (mx_getR t211 d211_110 rfl fl12_79 h0 h1) <|
  Eq.trans (mx_iload_n t211 d211_113 (x := x3) rfl) <|
  Eq.trans (mx_iald t211 d211_114 h3 h2) <|
  Eq.trans (mx_iload t211 d211_115 (x := x4) rfl) <|
  Eq.trans (mx_isub t211 d211_117) <|
  (mx_cle t211 d211_118 (tgt := 124) (by decide))
theorem b211_121 {d : Nat} {S : mm_S} {a0 : Nat} {x1 : Int32} {x2 : Int32} {x3 : Int32} {x4 : Int32} {x5 : Int32} : mm_ex d 211 121 [.ref a0, .int x1, .int x2, .int x3, .int x4, .int x5, .null] [] S =
    some (some (.int (-13)), S) :=
  Eq.trans (mx_bipush t211 d211_121 (v := -13) rfl) <|
  (mx_iret t211 d211_123 (ty := .int) rfl rfl (fun h => nomatch h))
theorem b211_124 {d : Nat} {S : mm_S} {a0 : Nat} {x1 : Int32} {x2 : Int32} {x3 : Int32} {x4 : Int32} {x5 : Int32} : mm_ex d 211 124 [.ref a0, .int x1, .int x2, .int x3, .int x4, .int x5, .null] [] S =
    mm_ex d 211 127 [.ref a0, .int x1, .int x2, .int x3, .int x4, .int x5, .int (nI 0)] [] S :=
  Eq.trans (mx_iconst t211 d211_124 (v := nI 0) rfl) <|
  (mx_istore t211 d211_125 (ls' := [.ref a0, .int x1, .int x2, .int x3, .int x4, .int x5, .int (nI 0)]) rfl rfl)
theorem b211_127 {d : Nat} {S : mm_S} {a0 : Nat} {x1 : Int32} {x2 : Int32} {x3 : Int32} {x4 : Int32} {x5 : Int32} {x6 : Int32} : mm_ex d 211 127 [.ref a0, .int x1, .int x2, .int x3, .int x4, .int x5, .int x6] [] S =
    if x5 ≤ x6 then mm_ex d 211 161 [.ref a0, .int x1, .int x2, .int x3, .int x4, .int x5, .int x6] [] S else mm_ex d 211 134 [.ref a0, .int x1, .int x2, .int x3, .int x4, .int x5, .int x6] [] S :=
  Eq.trans (mx_iload t211 d211_127 (x := x6) rfl) <|
  Eq.trans (mx_iload t211 d211_129 (x := x5) rfl) <|
  (mx_cge t211 d211_131 (tgt := 161) (by decide))
theorem b211_134 {d : Nat} {S : mm_S} {a0 : Nat} {x1 : Int32} {x2 : Int32} {x3 : Int32} {x4 : Int32} {x5 : Int32} {x6 : Int32} (h0 : mm_obj S a0 12 = true) (h1 : (mm_R S a0 75).isSome = true) (h2 : (mm_R S a0 32).isSome = true) (h3 : mm_inb ((((nI 60) * x1) + x2) + x6) (mm_N S (mm_rg S a0 32)) = true) (h4 : mm_arr S (mm_rg S a0 32) 14 = true) (h5 : mm_arr S (mm_rg S a0 75) 14 = true) (h6 : mm_inb x6 (mm_N S (mm_rg S a0 75)) = true) : mm_ex d 211 134 [.ref a0, .int x1, .int x2, .int x3, .int x4, .int x5, .int x6] [] S =
    mm_ex d 211 127 [.ref a0, .int x1, .int x2, .int x3, .int x4, .int x5, .int (x6 + nI 1)] [] (mm_uL S (mm_rg S a0 75) (x6).toNatClampNeg (mm_L S (mm_rg S a0 32) ((((nI 60) * x1) + x2) + x6).toNatClampNeg)) :=
  Eq.trans (mx_aload_n t211 d211_134 (x := a0) rfl) <|
  Eq.trans (mx_getR t211 d211_135 rfl fl12_156 h0 h1) <|
  Eq.trans (mx_iload t211 d211_138 (x := x6) rfl) <|
  Eq.trans (mx_aload_n t211 d211_140 (x := a0) rfl) <|
  Eq.trans (mx_getR t211 d211_141 rfl fl12_82 h0 h2) <|
  Eq.trans (mx_bipush t211 d211_144 (v := nI 60) rfl) <|
  Eq.trans (mx_iload_n t211 d211_146 (x := x1) rfl) <|
  Eq.trans (mx_imul t211 d211_147) <|
  Eq.trans (mx_iload_n t211 d211_148 (x := x2) rfl) <|
  Eq.trans (mx_iadd t211 d211_149) <|
  Eq.trans (mx_iload t211 d211_150 (x := x6) rfl) <|
  Eq.trans (mx_iadd t211 d211_152) <|
  Eq.trans (mx_lald t211 d211_153 h4 h3) <|
  Eq.trans (mx_last2 t211 d211_154 h5 h6) <|
  Eq.trans (mx_iinc t211 d211_155 (x := x6) (v := nI 1) (ls' := [.ref a0, .int x1, .int x2, .int x3, .int x4, .int x5, .int (x6 + nI 1)]) rfl rfl rfl rfl) <|
  (mx_goto t211 d211_158 (tgt := 127) (by decide))
theorem b211_161 {d : Nat} {S : mm_S} {a0 : Nat} {x1 : Int32} {x2 : Int32} {x3 : Int32} {x4 : Int32} {x5 : Int32} {x6 : Int32} : mm_ex d 211 161 [.ref a0, .int x1, .int x2, .int x3, .int x4, .int x5, .int x6] [] S =
    mm_ex d 211 164 [.ref a0, .int x1, .int x2, .int x3, .int x4, .int x5, .int (nI 0)] [] S :=
  Eq.trans (mx_iconst t211 d211_161 (v := nI 0) rfl) <|
  (mx_istore t211 d211_162 (ls' := [.ref a0, .int x1, .int x2, .int x3, .int x4, .int x5, .int (nI 0)]) rfl rfl)
theorem b211_164 {d : Nat} {S : mm_S} {a0 : Nat} {x1 : Int32} {x2 : Int32} {x3 : Int32} {x4 : Int32} {x5 : Int32} {x6 : Int32} : mm_ex d 211 164 [.ref a0, .int x1, .int x2, .int x3, .int x4, .int x5, .int x6] [] S =
    if x5 ≤ x6 then mm_ex d 211 199 [.ref a0, .int x1, .int x2, .int x3, .int x4, .int x5, .int x6] [] S else mm_ex d 211 171 [.ref a0, .int x1, .int x2, .int x3, .int x4, .int x5, .int x6] [] S :=
  Eq.trans (mx_iload t211 d211_164 (x := x6) rfl) <|
  Eq.trans (mx_iload t211 d211_166 (x := x5) rfl) <|
  (mx_cge t211 d211_168 (tgt := 199) (by decide))
theorem b211_171 {d : Nat} {S : mm_S} {a0 : Nat} {x1 : Int32} {x2 : Int32} {x3 : Int32} {x4 : Int32} {x5 : Int32} {x6 : Int32} (h0 : mm_obj S a0 12 = true) (h1 : (mm_R S a0 32).isSome = true) (h2 : (mm_R S a0 75).isSome = true) (h3 : mm_inb x6 (mm_N S (mm_rg S a0 75)) = true) (h4 : mm_arr S (mm_rg S a0 75) 14 = true) (h5 : mm_arr S (mm_rg S a0 32) 14 = true) (h6 : mm_inb ((((nI 60) * x3) + x4) + x6) (mm_N S (mm_rg S a0 32)) = true) : mm_ex d 211 171 [.ref a0, .int x1, .int x2, .int x3, .int x4, .int x5, .int x6] [] S =
    mm_ex d 211 164 [.ref a0, .int x1, .int x2, .int x3, .int x4, .int x5, .int (x6 + nI 1)] [] (mm_uL S (mm_rg S a0 32) ((((nI 60) * x3) + x4) + x6).toNatClampNeg (mm_L S (mm_rg S a0 75) (x6).toNatClampNeg)) :=
  Eq.trans (mx_aload_n t211 d211_171 (x := a0) rfl) <|
  Eq.trans (mx_getR t211 d211_172 rfl fl12_82 h0 h1) <|
  Eq.trans (mx_bipush t211 d211_175 (v := nI 60) rfl) <|
  Eq.trans (mx_iload_n t211 d211_177 (x := x3) rfl) <|
  Eq.trans (mx_imul t211 d211_178) <|
  Eq.trans (mx_iload t211 d211_179 (x := x4) rfl) <|
  Eq.trans (mx_iadd t211 d211_181) <|
  Eq.trans (mx_iload t211 d211_182 (x := x6) rfl) <|
  Eq.trans (mx_iadd t211 d211_184) <|
  Eq.trans (mx_aload_n t211 d211_185 (x := a0) rfl) <|
  Eq.trans (mx_getR t211 d211_186 rfl fl12_156 h0 h2) <|
  Eq.trans (mx_iload t211 d211_189 (x := x6) rfl) <|
  Eq.trans (mx_lald t211 d211_191 h4 h3) <|
  Eq.trans (mx_last2 t211 d211_192 h5 h6) <|
  Eq.trans (mx_iinc t211 d211_193 (x := x6) (v := nI 1) (ls' := [.ref a0, .int x1, .int x2, .int x3, .int x4, .int x5, .int (x6 + nI 1)]) rfl rfl rfl rfl) <|
  (mx_goto t211 d211_196 (tgt := 164) (by decide))
theorem b211_199 {d : Nat} {S : mm_S} {a0 : Nat} {x1 : Int32} {x2 : Int32} {x3 : Int32} {x4 : Int32} {x5 : Int32} {x6 : Int32} : mm_ex d 211 199 [.ref a0, .int x1, .int x2, .int x3, .int x4, .int x5, .int x6] [] S =
    some (some (.int x5), S) :=
  Eq.trans (mx_iload t211 d211_199 (x := x5) rfl) <|
  (mx_iret t211 d211_201 (ty := .int) rfl rfl (fun h => nomatch h))
theorem e211 {d : Nat} {S : mm_S} {a0 : Nat} {x1 : Int32} {x2 : Int32} {x3 : Int32} {x4 : Int32} {x5 : Int32} : mm_cl d 211 [.ref a0, .int x1, .int x2, .int x3, .int x4, .int x5] S = mm_ex d 211 0 [.ref a0, .int x1, .int x2, .int x3, .int x4, .int x5, .null] [] S := mm_cl_eq t211 (Nat.le_of_ble_eq_true rfl) rfl
