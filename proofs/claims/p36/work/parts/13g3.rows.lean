/-! X12_lowest -/
theorem dd181_0 : (decode prog_14_method_56_code 0 = .ok (.lload_n 0, 1)) ∧ (decode prog_14_method_56_code 1 = .ok (.lconst 0, 1)) ∧ (decode prog_14_method_56_code 2 = .ok (.lcmp, 1)) ∧ (decode prog_14_method_56_code 3 = .ok (.ifCond .ne 7, 3)) ∧ (decode prog_14_method_56_code 6 = .ok (.iload 4, 2)) ∧ (decode prog_14_method_56_code 8 = .ok (.i2l, 1)) ∧ (decode prog_14_method_56_code 9 = .ok (.lreturn, 1)) ∧ (decode prog_14_method_56_code 10 = .ok (.lload_n 0, 1)) ∧ (decode prog_14_method_56_code 11 = .ok (.lstore 5, 2)) ∧ (decode prog_14_method_56_code 13 = .ok (.lload_n 2, 1)) ∧ (decode prog_14_method_56_code 14 = .ok (.lstore 7, 2)) ∧ (decode prog_14_method_56_code 16 = .ok (.lload 7, 2)) ∧ (decode prog_14_method_56_code 18 = .ok (.lconst 0, 1)) ∧ (decode prog_14_method_56_code 19 = .ok (.lcmp, 1)) ∧ (decode prog_14_method_56_code 20 = .ok (.ifCond .eq 21, 3)) ∧ (decode prog_14_method_56_code 23 = .ok (.lload 5, 2)) := by decide +kernel
theorem d181_0 : decode prog_14_method_56_code 0 = .ok (.lload_n 0, 1) := dd181_0.1
theorem d181_1 : decode prog_14_method_56_code 1 = .ok (.lconst 0, 1) := dd181_0.2.1
theorem d181_2 : decode prog_14_method_56_code 2 = .ok (.lcmp, 1) := dd181_0.2.2.1
theorem d181_3 : decode prog_14_method_56_code 3 = .ok (.ifCond .ne 7, 3) := dd181_0.2.2.2.1
theorem d181_6 : decode prog_14_method_56_code 6 = .ok (.iload 4, 2) := dd181_0.2.2.2.2.1
theorem d181_8 : decode prog_14_method_56_code 8 = .ok (.i2l, 1) := dd181_0.2.2.2.2.2.1
theorem d181_9 : decode prog_14_method_56_code 9 = .ok (.lreturn, 1) := dd181_0.2.2.2.2.2.2.1
theorem d181_10 : decode prog_14_method_56_code 10 = .ok (.lload_n 0, 1) := dd181_0.2.2.2.2.2.2.2.1
theorem d181_11 : decode prog_14_method_56_code 11 = .ok (.lstore 5, 2) := dd181_0.2.2.2.2.2.2.2.2.1
theorem d181_13 : decode prog_14_method_56_code 13 = .ok (.lload_n 2, 1) := dd181_0.2.2.2.2.2.2.2.2.2.1
theorem d181_14 : decode prog_14_method_56_code 14 = .ok (.lstore 7, 2) := dd181_0.2.2.2.2.2.2.2.2.2.2.1
theorem d181_16 : decode prog_14_method_56_code 16 = .ok (.lload 7, 2) := dd181_0.2.2.2.2.2.2.2.2.2.2.2.1
theorem d181_18 : decode prog_14_method_56_code 18 = .ok (.lconst 0, 1) := dd181_0.2.2.2.2.2.2.2.2.2.2.2.2.1
theorem d181_19 : decode prog_14_method_56_code 19 = .ok (.lcmp, 1) := dd181_0.2.2.2.2.2.2.2.2.2.2.2.2.2.1
theorem d181_20 : decode prog_14_method_56_code 20 = .ok (.ifCond .eq 21, 3) := dd181_0.2.2.2.2.2.2.2.2.2.2.2.2.2.2.1
theorem d181_23 : decode prog_14_method_56_code 23 = .ok (.lload 5, 2) := dd181_0.2.2.2.2.2.2.2.2.2.2.2.2.2.2.2
theorem dd181_25 : (decode prog_14_method_56_code 25 = .ok (.lload 7, 2)) ∧ (decode prog_14_method_56_code 27 = .ok (.lrem, 1)) ∧ (decode prog_14_method_56_code 28 = .ok (.lstore 9, 2)) ∧ (decode prog_14_method_56_code 30 = .ok (.lload 7, 2)) ∧ (decode prog_14_method_56_code 32 = .ok (.lstore 5, 2)) ∧ (decode prog_14_method_56_code 34 = .ok (.lload 9, 2)) ∧ (decode prog_14_method_56_code 36 = .ok (.lstore 7, 2)) ∧ (decode prog_14_method_56_code 38 = .ok (.goto (-22), 3)) ∧ (decode prog_14_method_56_code 41 = .ok (.iload 4, 2)) ∧ (decode prog_14_method_56_code 43 = .ok (.ifCond .ne 7, 3)) ∧ (decode prog_14_method_56_code 46 = .ok (.lload_n 0, 1)) ∧ (decode prog_14_method_56_code 47 = .ok (.goto 4, 3)) ∧ (decode prog_14_method_56_code 50 = .ok (.lload_n 2, 1)) ∧ (decode prog_14_method_56_code 51 = .ok (.lload 5, 2)) ∧ (decode prog_14_method_56_code 53 = .ok (.ldiv, 1)) ∧ (decode prog_14_method_56_code 54 = .ok (.lreturn, 1)) := by decide +kernel
theorem d181_25 : decode prog_14_method_56_code 25 = .ok (.lload 7, 2) := dd181_25.1
theorem d181_27 : decode prog_14_method_56_code 27 = .ok (.lrem, 1) := dd181_25.2.1
theorem d181_28 : decode prog_14_method_56_code 28 = .ok (.lstore 9, 2) := dd181_25.2.2.1
theorem d181_30 : decode prog_14_method_56_code 30 = .ok (.lload 7, 2) := dd181_25.2.2.2.1
theorem d181_32 : decode prog_14_method_56_code 32 = .ok (.lstore 5, 2) := dd181_25.2.2.2.2.1
theorem d181_34 : decode prog_14_method_56_code 34 = .ok (.lload 9, 2) := dd181_25.2.2.2.2.2.1
theorem d181_36 : decode prog_14_method_56_code 36 = .ok (.lstore 7, 2) := dd181_25.2.2.2.2.2.2.1
theorem d181_38 : decode prog_14_method_56_code 38 = .ok (.goto (-22), 3) := dd181_25.2.2.2.2.2.2.2.1
theorem d181_41 : decode prog_14_method_56_code 41 = .ok (.iload 4, 2) := dd181_25.2.2.2.2.2.2.2.2.1
theorem d181_43 : decode prog_14_method_56_code 43 = .ok (.ifCond .ne 7, 3) := dd181_25.2.2.2.2.2.2.2.2.2.1
theorem d181_46 : decode prog_14_method_56_code 46 = .ok (.lload_n 0, 1) := dd181_25.2.2.2.2.2.2.2.2.2.2.1
theorem d181_47 : decode prog_14_method_56_code 47 = .ok (.goto 4, 3) := dd181_25.2.2.2.2.2.2.2.2.2.2.2.1
theorem d181_50 : decode prog_14_method_56_code 50 = .ok (.lload_n 2, 1) := dd181_25.2.2.2.2.2.2.2.2.2.2.2.2.1
theorem d181_51 : decode prog_14_method_56_code 51 = .ok (.lload 5, 2) := dd181_25.2.2.2.2.2.2.2.2.2.2.2.2.2.1
theorem d181_53 : decode prog_14_method_56_code 53 = .ok (.ldiv, 1) := dd181_25.2.2.2.2.2.2.2.2.2.2.2.2.2.2.1
theorem d181_54 : decode prog_14_method_56_code 54 = .ok (.lreturn, 1) := dd181_25.2.2.2.2.2.2.2.2.2.2.2.2.2.2.2
theorem b181_0 {d : Nat} {S : mm_S} {j0 : Int64} {j2 : Int64} {x4 : Int32} : mm_ex d 181 0 [.long j0, .null, .long j2, .null, .int x4, .null, .null, .null, .null, .null, .null] [] S =
    if (lg_cmp j0 0) = nI 0 then mm_ex d 181 6 [.long j0, .null, .long j2, .null, .int x4, .null, .null, .null, .null, .null, .null] [] S else mm_ex d 181 10 [.long j0, .null, .long j2, .null, .int x4, .null, .null, .null, .null, .null, .null] [] S :=
  Eq.trans (mx_lload_n t181 d181_0 (x := j0) rfl) <|
  Eq.trans (mx_lconst t181 d181_1 (v := 0) rfl) <|
  Eq.trans (mx_lcmp t181 d181_2) <|
  (mx_ine t181 d181_3 (tgt := 10) (by decide))
theorem b181_6 {d : Nat} {S : mm_S} {j0 : Int64} {j2 : Int64} {x4 : Int32} : mm_ex d 181 6 [.long j0, .null, .long j2, .null, .int x4, .null, .null, .null, .null, .null, .null] [] S =
    some (some (.long x4.toInt64), S) :=
  Eq.trans (mx_iload t181 d181_6 (x := x4) rfl) <|
  Eq.trans (mx_i2l t181 d181_8) <|
  (mx_lret t181 d181_9 rfl)
theorem b181_10 {d : Nat} {S : mm_S} {j0 : Int64} {j2 : Int64} {x4 : Int32} : mm_ex d 181 10 [.long j0, .null, .long j2, .null, .int x4, .null, .null, .null, .null, .null, .null] [] S =
    mm_ex d 181 16 [.long j0, .null, .long j2, .null, .int x4, .long j0, .null, .long j2, .null, .null, .null] [] S :=
  Eq.trans (mx_lload_n t181 d181_10 (x := j0) rfl) <|
  Eq.trans (mx_lstore t181 d181_11 (ls' := [.long j0, .null, .long j2, .null, .int x4, .long j0, .null, .null, .null, .null, .null]) rfl rfl) <|
  Eq.trans (mx_lload_n t181 d181_13 (x := j2) rfl) <|
  (mx_lstore t181 d181_14 (ls' := [.long j0, .null, .long j2, .null, .int x4, .long j0, .null, .long j2, .null, .null, .null]) rfl rfl)
theorem b181_16 {d : Nat} {S : mm_S} {j0 : Int64} {j2 : Int64} {x4 : Int32} {j5 : Int64} {j7 : Int64} {v9 : Value} : mm_ex d 181 16 [.long j0, .null, .long j2, .null, .int x4, .long j5, .null, .long j7, .null, v9, .null] [] S =
    if (lg_cmp j7 0) = nI 0 then mm_ex d 181 41 [.long j0, .null, .long j2, .null, .int x4, .long j5, .null, .long j7, .null, v9, .null] [] S else mm_ex d 181 23 [.long j0, .null, .long j2, .null, .int x4, .long j5, .null, .long j7, .null, v9, .null] [] S :=
  Eq.trans (mx_lload t181 d181_16 (x := j7) rfl) <|
  Eq.trans (mx_lconst t181 d181_18 (v := 0) rfl) <|
  Eq.trans (mx_lcmp t181 d181_19) <|
  (mx_ieq t181 d181_20 (tgt := 41) (by decide))
theorem b181_23 {d : Nat} {S : mm_S} {j0 : Int64} {j2 : Int64} {x4 : Int32} {j5 : Int64} {j7 : Int64} {v9 : Value} (h0 : ¬ j7 = 0) : mm_ex d 181 23 [.long j0, .null, .long j2, .null, .int x4, .long j5, .null, .long j7, .null, v9, .null] [] S =
    mm_ex d 181 16 [.long j0, .null, .long j2, .null, .int x4, .long j7, .null, .long (j5 - j5 / j7 * j7), .null, .long (j5 - j5 / j7 * j7), .null] [] S :=
  Eq.trans (mx_lload t181 d181_23 (x := j5) rfl) <|
  Eq.trans (mx_lload t181 d181_25 (x := j7) rfl) <|
  Eq.trans (mx_lrem t181 d181_27 h0) <|
  Eq.trans (mx_lstore t181 d181_28 (ls' := [.long j0, .null, .long j2, .null, .int x4, .long j5, .null, .long j7, .null, .long (j5 - j5 / j7 * j7), .null]) rfl rfl) <|
  Eq.trans (mx_lload t181 d181_30 (x := j7) rfl) <|
  Eq.trans (mx_lstore t181 d181_32 (ls' := [.long j0, .null, .long j2, .null, .int x4, .long j7, .null, .long j7, .null, .long (j5 - j5 / j7 * j7), .null]) rfl rfl) <|
  Eq.trans (mx_lload t181 d181_34 (x := j5 - j5 / j7 * j7) rfl) <|
  Eq.trans (mx_lstore t181 d181_36 (ls' := [.long j0, .null, .long j2, .null, .int x4, .long j7, .null, .long (j5 - j5 / j7 * j7), .null, .long (j5 - j5 / j7 * j7), .null]) rfl rfl) <|
  (mx_goto t181 d181_38 (tgt := 16) (by decide))
theorem b181_41 {d : Nat} {S : mm_S} {j0 : Int64} {j2 : Int64} {x4 : Int32} {j5 : Int64} {j7 : Int64} {v9 : Value} : mm_ex d 181 41 [.long j0, .null, .long j2, .null, .int x4, .long j5, .null, .long j7, .null, v9, .null] [] S =
    if x4 = nI 0 then mm_ex d 181 46 [.long j0, .null, .long j2, .null, .int x4, .long j5, .null, .long j7, .null, v9, .null] [] S else mm_ex d 181 50 [.long j0, .null, .long j2, .null, .int x4, .long j5, .null, .long j7, .null, v9, .null] [] S :=
  Eq.trans (mx_iload t181 d181_41 (x := x4) rfl) <|
  (mx_ine t181 d181_43 (tgt := 50) (by decide))
theorem b181_46 {d : Nat} {S : mm_S} {j0 : Int64} {j2 : Int64} {x4 : Int32} {j5 : Int64} {j7 : Int64} {v9 : Value} (h0 : ¬ j5 = 0) : mm_ex d 181 46 [.long j0, .null, .long j2, .null, .int x4, .long j5, .null, .long j7, .null, v9, .null] [] S =
    some (some (.long (j0 / j5)), S) :=
  Eq.trans (mx_lload_n t181 d181_46 (x := j0) rfl) <|
  Eq.trans (mx_goto t181 d181_47 (tgt := 51) (by decide)) <|
  Eq.trans (mx_lload t181 d181_51 (x := j5) rfl) <|
  Eq.trans (mx_ldiv t181 d181_53 h0) <|
  (mx_lret t181 d181_54 rfl)
theorem b181_50 {d : Nat} {S : mm_S} {j0 : Int64} {j2 : Int64} {x4 : Int32} {j5 : Int64} {j7 : Int64} {v9 : Value} (h0 : ¬ j5 = 0) : mm_ex d 181 50 [.long j0, .null, .long j2, .null, .int x4, .long j5, .null, .long j7, .null, v9, .null] [] S =
    some (some (.long (j2 / j5)), S) :=
  Eq.trans (mx_lload_n t181 d181_50 (x := j2) rfl) <|
  Eq.trans (mx_lload t181 d181_51 (x := j5) rfl) <|
  Eq.trans (mx_ldiv t181 d181_53 h0) <|
  (mx_lret t181 d181_54 rfl)
theorem e181 {d : Nat} {S : mm_S} {j0 : Int64} {j2 : Int64} {x4 : Int32} : mm_cl d 181 [.long j0, .long j2, .int x4] S = mm_ex d 181 0 [.long j0, .null, .long j2, .null, .int x4, .null, .null, .null, .null, .null, .null] [] S := mm_cl_eq t181 (Nat.le_of_ble_eq_true rfl) rfl
/-! X12_lot -/
theorem dd182_0 : (decode prog_14_method_57_code 0 = .ok (.iload_n 1, 1)) ∧ (decode prog_14_method_57_code 1 = .ok (.iconst 0, 1)) ∧ (decode prog_14_method_57_code 2 = .ok (.iconst 1, 1)) ∧ (decode prog_14_method_57_code 3 = .ok (.invokestatic 162, 3)) ∧ (decode prog_14_method_57_code 6 = .ok (.ifCond .eq 11, 3)) ∧ (decode prog_14_method_57_code 9 = .ok (.aload_n 0, 1)) ∧ (decode prog_14_method_57_code 10 = .ok (.getfield 166, 3)) ∧ (decode prog_14_method_57_code 13 = .ok (.iconst 5, 1)) ∧ (decode prog_14_method_57_code 14 = .ok (.if_icmp .le 7, 3)) ∧ (decode prog_14_method_57_code 17 = .ok (.ldc2_w 329, 3)) ∧ (decode prog_14_method_57_code 20 = .ok (.lreturn, 1)) ∧ (decode prog_14_method_57_code 21 = .ok (.lconst 0, 1)) ∧ (decode prog_14_method_57_code 22 = .ok (.lstore_n 2, 1)) ∧ (decode prog_14_method_57_code 23 = .ok (.iconst 0, 1)) ∧ (decode prog_14_method_57_code 24 = .ok (.istore 4, 2)) ∧ (decode prog_14_method_57_code 26 = .ok (.iload 4, 2)) := by decide +kernel
theorem d182_0 : decode prog_14_method_57_code 0 = .ok (.iload_n 1, 1) := dd182_0.1
theorem d182_1 : decode prog_14_method_57_code 1 = .ok (.iconst 0, 1) := dd182_0.2.1
theorem d182_2 : decode prog_14_method_57_code 2 = .ok (.iconst 1, 1) := dd182_0.2.2.1
theorem d182_3 : decode prog_14_method_57_code 3 = .ok (.invokestatic 162, 3) := dd182_0.2.2.2.1
theorem d182_6 : decode prog_14_method_57_code 6 = .ok (.ifCond .eq 11, 3) := dd182_0.2.2.2.2.1
theorem d182_9 : decode prog_14_method_57_code 9 = .ok (.aload_n 0, 1) := dd182_0.2.2.2.2.2.1
theorem d182_10 : decode prog_14_method_57_code 10 = .ok (.getfield 166, 3) := dd182_0.2.2.2.2.2.2.1
theorem d182_13 : decode prog_14_method_57_code 13 = .ok (.iconst 5, 1) := dd182_0.2.2.2.2.2.2.2.1
theorem d182_14 : decode prog_14_method_57_code 14 = .ok (.if_icmp .le 7, 3) := dd182_0.2.2.2.2.2.2.2.2.1
theorem d182_17 : decode prog_14_method_57_code 17 = .ok (.ldc2_w 329, 3) := dd182_0.2.2.2.2.2.2.2.2.2.1
theorem d182_20 : decode prog_14_method_57_code 20 = .ok (.lreturn, 1) := dd182_0.2.2.2.2.2.2.2.2.2.2.1
theorem d182_21 : decode prog_14_method_57_code 21 = .ok (.lconst 0, 1) := dd182_0.2.2.2.2.2.2.2.2.2.2.2.1
theorem d182_22 : decode prog_14_method_57_code 22 = .ok (.lstore_n 2, 1) := dd182_0.2.2.2.2.2.2.2.2.2.2.2.2.1
theorem d182_23 : decode prog_14_method_57_code 23 = .ok (.iconst 0, 1) := dd182_0.2.2.2.2.2.2.2.2.2.2.2.2.2.1
theorem d182_24 : decode prog_14_method_57_code 24 = .ok (.istore 4, 2) := dd182_0.2.2.2.2.2.2.2.2.2.2.2.2.2.2.1
theorem d182_26 : decode prog_14_method_57_code 26 = .ok (.iload 4, 2) := dd182_0.2.2.2.2.2.2.2.2.2.2.2.2.2.2.2
theorem dd182_28 : (decode prog_14_method_57_code 28 = .ok (.aload_n 0, 1)) ∧ (decode prog_14_method_57_code 29 = .ok (.getfield 166, 3)) ∧ (decode prog_14_method_57_code 32 = .ok (.invokestatic 323, 3)) ∧ (decode prog_14_method_57_code 35 = .ok (.if_icmp .ge 35, 3)) ∧ (decode prog_14_method_57_code 38 = .ok (.aload_n 0, 1)) ∧ (decode prog_14_method_57_code 39 = .ok (.invokevirtual 311, 3)) ∧ (decode prog_14_method_57_code 42 = .ok (.aload_n 0, 1)) ∧ (decode prog_14_method_57_code 43 = .ok (.iload 4, 2)) ∧ (decode prog_14_method_57_code 45 = .ok (.invokevirtual 326, 3)) ∧ (decode prog_14_method_57_code 48 = .ok (.aload_n 0, 1)) ∧ (decode prog_14_method_57_code 49 = .ok (.invokevirtual 314, 3)) ∧ (decode prog_14_method_57_code 52 = .ok (.lload_n 2, 1)) ∧ (decode prog_14_method_57_code 53 = .ok (.aload_n 0, 1)) ∧ (decode prog_14_method_57_code 54 = .ok (.getfield 257, 3)) ∧ (decode prog_14_method_57_code 57 = .ok (.i2l, 1)) ∧ (decode prog_14_method_57_code 58 = .ok (.ladd, 1)) := by decide +kernel
theorem d182_28 : decode prog_14_method_57_code 28 = .ok (.aload_n 0, 1) := dd182_28.1
theorem d182_29 : decode prog_14_method_57_code 29 = .ok (.getfield 166, 3) := dd182_28.2.1
theorem d182_32 : decode prog_14_method_57_code 32 = .ok (.invokestatic 323, 3) := dd182_28.2.2.1
theorem d182_35 : decode prog_14_method_57_code 35 = .ok (.if_icmp .ge 35, 3) := dd182_28.2.2.2.1
theorem d182_38 : decode prog_14_method_57_code 38 = .ok (.aload_n 0, 1) := dd182_28.2.2.2.2.1
theorem d182_39 : decode prog_14_method_57_code 39 = .ok (.invokevirtual 311, 3) := dd182_28.2.2.2.2.2.1
theorem d182_42 : decode prog_14_method_57_code 42 = .ok (.aload_n 0, 1) := dd182_28.2.2.2.2.2.2.1
theorem d182_43 : decode prog_14_method_57_code 43 = .ok (.iload 4, 2) := dd182_28.2.2.2.2.2.2.2.1
theorem d182_45 : decode prog_14_method_57_code 45 = .ok (.invokevirtual 326, 3) := dd182_28.2.2.2.2.2.2.2.2.1
theorem d182_48 : decode prog_14_method_57_code 48 = .ok (.aload_n 0, 1) := dd182_28.2.2.2.2.2.2.2.2.2.1
theorem d182_49 : decode prog_14_method_57_code 49 = .ok (.invokevirtual 314, 3) := dd182_28.2.2.2.2.2.2.2.2.2.2.1
theorem d182_52 : decode prog_14_method_57_code 52 = .ok (.lload_n 2, 1) := dd182_28.2.2.2.2.2.2.2.2.2.2.2.1
theorem d182_53 : decode prog_14_method_57_code 53 = .ok (.aload_n 0, 1) := dd182_28.2.2.2.2.2.2.2.2.2.2.2.2.1
theorem d182_54 : decode prog_14_method_57_code 54 = .ok (.getfield 257, 3) := dd182_28.2.2.2.2.2.2.2.2.2.2.2.2.2.1
theorem d182_57 : decode prog_14_method_57_code 57 = .ok (.i2l, 1) := dd182_28.2.2.2.2.2.2.2.2.2.2.2.2.2.2.1
theorem d182_58 : decode prog_14_method_57_code 58 = .ok (.ladd, 1) := dd182_28.2.2.2.2.2.2.2.2.2.2.2.2.2.2.2
theorem dd182_59 : (decode prog_14_method_57_code 59 = .ok (.lstore_n 2, 1)) ∧ (decode prog_14_method_57_code 60 = .ok (.aload_n 0, 1)) ∧ (decode prog_14_method_57_code 61 = .ok (.invokevirtual 317, 3)) ∧ (decode prog_14_method_57_code 64 = .ok (.iinc 4 1, 3)) ∧ (decode prog_14_method_57_code 67 = .ok (.goto (-41), 3)) ∧ (decode prog_14_method_57_code 70 = .ok (.lload_n 2, 1)) ∧ (decode prog_14_method_57_code 71 = .ok (.aload_n 0, 1)) ∧ (decode prog_14_method_57_code 72 = .ok (.getfield 166, 3)) ∧ (decode prog_14_method_57_code 75 = .ok (.invokestatic 323, 3)) ∧ (decode prog_14_method_57_code 78 = .ok (.i2l, 1)) ∧ (decode prog_14_method_57_code 79 = .ok (.iload_n 1, 1)) ∧ (decode prog_14_method_57_code 80 = .ok (.invokestatic 331, 3)) ∧ (decode prog_14_method_57_code 83 = .ok (.lreturn, 1)) := by decide +kernel
theorem d182_59 : decode prog_14_method_57_code 59 = .ok (.lstore_n 2, 1) := dd182_59.1
theorem d182_60 : decode prog_14_method_57_code 60 = .ok (.aload_n 0, 1) := dd182_59.2.1
theorem d182_61 : decode prog_14_method_57_code 61 = .ok (.invokevirtual 317, 3) := dd182_59.2.2.1
theorem d182_64 : decode prog_14_method_57_code 64 = .ok (.iinc 4 1, 3) := dd182_59.2.2.2.1
theorem d182_67 : decode prog_14_method_57_code 67 = .ok (.goto (-41), 3) := dd182_59.2.2.2.2.1
theorem d182_70 : decode prog_14_method_57_code 70 = .ok (.lload_n 2, 1) := dd182_59.2.2.2.2.2.1
theorem d182_71 : decode prog_14_method_57_code 71 = .ok (.aload_n 0, 1) := dd182_59.2.2.2.2.2.2.1
theorem d182_72 : decode prog_14_method_57_code 72 = .ok (.getfield 166, 3) := dd182_59.2.2.2.2.2.2.2.1
theorem d182_75 : decode prog_14_method_57_code 75 = .ok (.invokestatic 323, 3) := dd182_59.2.2.2.2.2.2.2.2.1
theorem d182_78 : decode prog_14_method_57_code 78 = .ok (.i2l, 1) := dd182_59.2.2.2.2.2.2.2.2.2.1
theorem d182_79 : decode prog_14_method_57_code 79 = .ok (.iload_n 1, 1) := dd182_59.2.2.2.2.2.2.2.2.2.2.1
theorem d182_80 : decode prog_14_method_57_code 80 = .ok (.invokestatic 331, 3) := dd182_59.2.2.2.2.2.2.2.2.2.2.2.1
theorem d182_83 : decode prog_14_method_57_code 83 = .ok (.lreturn, 1) := dd182_59.2.2.2.2.2.2.2.2.2.2.2.2
theorem b182_0 {d : Nat} {S : mm_S} {a0 : Nat} {x1 : Int32} : mm_ex (d + 1) 182 0 [.ref a0, .int x1, .null, .null, .null] [] S =
    mm_bd (mm_cl d 128 [.int x1, .int (nI 0), .int (nI 1)] S) (fun v S2 => mm_ex (d + 1) 182 6 [.ref a0, .int x1, .null, .null, .null] (v.toList ++ []) S2) :=
  Eq.trans (mx_iload_n t182 d182_0 (x := x1) rfl) <|
  Eq.trans (mx_iconst t182 d182_1 (v := nI 0) rfl) <|
  Eq.trans (mx_iconst t182 d182_2 (v := nI 1) rfl) <|
  (mx_stat (st := []) t182 [.int x1, .int (nI 0), .int (nI 1)] d182_3 acn12_162 mxn12_162 st12_162 rfl (Nat.le_of_ble_eq_true rfl) (Nat.le_of_ble_eq_true rfl))
theorem b182_6 {d : Nat} {S : mm_S} {a0 : Nat} {x1 : Int32} {p0 : Int32} : mm_ex d 182 6 [.ref a0, .int x1, .null, .null, .null] [.int p0] S =
    if p0 = nI 0 then mm_ex d 182 17 [.ref a0, .int x1, .null, .null, .null] [] S else mm_ex d 182 9 [.ref a0, .int x1, .null, .null, .null] [] S :=
  (mx_ieq t182 d182_6 (tgt := 17) (by decide))
theorem b182_9 {d : Nat} {S : mm_S} {a0 : Nat} {x1 : Int32} (h0 : mm_obj S a0 12 = true) : mm_ex d 182 9 [.ref a0, .int x1, .null, .null, .null] [] S =
    if (mm_M S a0 8) ≤ (nI 5) then mm_ex d 182 21 [.ref a0, .int x1, .null, .null, .null] [] S else mm_ex d 182 17 [.ref a0, .int x1, .null, .null, .null] [] S :=
  Eq.trans (mx_aload_n t182 d182_9 (x := a0) rfl) <|
  Eq.trans (mx_geti t182 d182_10 rfl fl12_166 h0) <|
  Eq.trans (mx_iconst t182 d182_13 (v := nI 5) rfl) <|
  (mx_cle t182 d182_14 (tgt := 21) (by decide))
theorem b182_17 {d : Nat} {S : mm_S} {a0 : Nat} {x1 : Int32} : mm_ex d 182 17 [.ref a0, .int x1, .null, .null, .null] [] S =
    some (some (.long (-9223372036854775808)), S) :=
  Eq.trans (mx_ldc2_w t182 d182_17 (v := -9223372036854775808) l212_329) <|
  (mx_lret t182 d182_20 rfl)
theorem b182_21 {d : Nat} {S : mm_S} {a0 : Nat} {x1 : Int32} : mm_ex d 182 21 [.ref a0, .int x1, .null, .null, .null] [] S =
    mm_ex d 182 26 [.ref a0, .int x1, .long 0, .null, .int (nI 0)] [] S :=
  Eq.trans (mx_lconst t182 d182_21 (v := 0) rfl) <|
  Eq.trans (mx_lstore_n t182 d182_22 (ls' := [.ref a0, .int x1, .long 0, .null, .null]) rfl rfl) <|
  Eq.trans (mx_iconst t182 d182_23 (v := nI 0) rfl) <|
  (mx_istore t182 d182_24 (ls' := [.ref a0, .int x1, .long 0, .null, .int (nI 0)]) rfl rfl)
theorem b182_26 {d : Nat} {S : mm_S} {a0 : Nat} {x1 : Int32} {j2 : Int64} {x4 : Int32} (h0 : mm_obj S a0 12 = true) : mm_ex (d + 1) 182 26 [.ref a0, .int x1, .long j2, .null, .int x4] [] S =
    mm_bd (mm_cl d 177 [.int (mm_M S a0 8)] S) (fun v S2 => mm_ex (d + 1) 182 35 [.ref a0, .int x1, .long j2, .null, .int x4] (v.toList ++ [.int x4]) S2) :=
  Eq.trans (mx_iload t182 d182_26 (x := x4) rfl) <|
  Eq.trans (mx_aload_n t182 d182_28 (x := a0) rfl) <|
  Eq.trans (mx_geti t182 d182_29 rfl fl12_166 h0) <|
  (mx_stat (st := [.int x4]) t182 [.int (mm_M S a0 8)] d182_32 acn12_323 mxn12_323 st12_323 rfl (Nat.le_of_ble_eq_true rfl) (Nat.le_of_ble_eq_true rfl))
theorem b182_35 {d : Nat} {S : mm_S} {a0 : Nat} {x1 : Int32} {j2 : Int64} {x4 : Int32} {p0 : Int32} {p1 : Int32} : mm_ex d 182 35 [.ref a0, .int x1, .long j2, .null, .int x4] [.int p0, .int p1] S =
    if p0 ≤ p1 then mm_ex d 182 70 [.ref a0, .int x1, .long j2, .null, .int x4] [] S else mm_ex d 182 38 [.ref a0, .int x1, .long j2, .null, .int x4] [] S :=
  (mx_cge t182 d182_35 (tgt := 70) (by decide))
theorem b182_38 {d : Nat} {S : mm_S} {a0 : Nat} {x1 : Int32} {j2 : Int64} {x4 : Int32} (h0 : mm_rk S a0 = 12) : mm_ex (d + 1) 182 38 [.ref a0, .int x1, .long j2, .null, .int x4] [] S =
    mm_bd (mm_cl d 171 [.ref a0] S) (fun v S2 => mm_ex (d + 1) 182 42 [.ref a0, .int x1, .long j2, .null, .int x4] (v.toList ++ []) S2) :=
  Eq.trans (mx_aload_n t182 d182_38 (x := a0) rfl) <|
  (mx_virt (st := []) (k := 12) t182 [] d182_39 vt12_311 rfl rfl (Nat.le_of_ble_eq_true rfl) (Nat.le_of_ble_eq_true rfl) h0)
theorem b182_42 {d : Nat} {S : mm_S} {a0 : Nat} {x1 : Int32} {j2 : Int64} {x4 : Int32} (h0 : mm_rk S a0 = 12) : mm_ex (d + 1) 182 42 [.ref a0, .int x1, .long j2, .null, .int x4] [] S =
    mm_bd (mm_cl d 178 [.ref a0, .int x4] S) (fun v S2 => mm_ex (d + 1) 182 48 [.ref a0, .int x1, .long j2, .null, .int x4] (v.toList ++ []) S2) :=
  Eq.trans (mx_aload_n t182 d182_42 (x := a0) rfl) <|
  Eq.trans (mx_iload t182 d182_43 (x := x4) rfl) <|
  (mx_virt (st := []) (k := 12) t182 [.int x4] d182_45 vt12_326 rfl rfl (Nat.le_of_ble_eq_true rfl) (Nat.le_of_ble_eq_true rfl) h0)
theorem b182_48 {d : Nat} {S : mm_S} {a0 : Nat} {x1 : Int32} {j2 : Int64} {x4 : Int32} (h0 : mm_rk S a0 = 12) : mm_ex (d + 1) 182 48 [.ref a0, .int x1, .long j2, .null, .int x4] [] S =
    mm_bd (mm_cl d 173 [.ref a0] S) (fun v S2 => mm_ex (d + 1) 182 52 [.ref a0, .int x1, .long j2, .null, .int x4] (v.toList ++ []) S2) :=
  Eq.trans (mx_aload_n t182 d182_48 (x := a0) rfl) <|
  (mx_virt (st := []) (k := 12) t182 [] d182_49 vt12_314 rfl rfl (Nat.le_of_ble_eq_true rfl) (Nat.le_of_ble_eq_true rfl) h0)
theorem b182_52 {d : Nat} {S : mm_S} {a0 : Nat} {x1 : Int32} {j2 : Int64} {x4 : Int32} (h0 : mm_obj S a0 12 = true) (h1 : mm_rk S a0 = 12) : mm_ex (d + 1) 182 52 [.ref a0, .int x1, .long j2, .null, .int x4] [] S =
    mm_bd (mm_cl d 172 [.ref a0] S) (fun v S2 => mm_ex (d + 1) 182 64 [.ref a0, .int x1, .long (j2 + ((mm_M S a0 12).toInt64)), .null, .int x4] (v.toList ++ []) S2) :=
  Eq.trans (mx_lload_n t182 d182_52 (x := j2) rfl) <|
  Eq.trans (mx_aload_n t182 d182_53 (x := a0) rfl) <|
  Eq.trans (mx_geti t182 d182_54 rfl fl12_257 h0) <|
  Eq.trans (mx_i2l t182 d182_57) <|
  Eq.trans (mx_ladd t182 d182_58) <|
  Eq.trans (mx_lstore_n t182 d182_59 (ls' := [.ref a0, .int x1, .long (j2 + ((mm_M S a0 12).toInt64)), .null, .int x4]) rfl rfl) <|
  Eq.trans (mx_aload_n t182 d182_60 (x := a0) rfl) <|
  (mx_virt (st := []) (k := 12) t182 [] d182_61 vt12_317 rfl rfl (Nat.le_of_ble_eq_true rfl) (Nat.le_of_ble_eq_true rfl) h1)
theorem b182_64 {d : Nat} {S : mm_S} {a0 : Nat} {x1 : Int32} {j2 : Int64} {x4 : Int32} : mm_ex d 182 64 [.ref a0, .int x1, .long j2, .null, .int x4] [] S =
    mm_ex d 182 26 [.ref a0, .int x1, .long j2, .null, .int (x4 + nI 1)] [] S :=
  Eq.trans (mx_iinc t182 d182_64 (x := x4) (v := nI 1) (ls' := [.ref a0, .int x1, .long j2, .null, .int (x4 + nI 1)]) rfl rfl rfl rfl) <|
  (mx_goto t182 d182_67 (tgt := 26) (by decide))
theorem b182_70 {d : Nat} {S : mm_S} {a0 : Nat} {x1 : Int32} {j2 : Int64} {x4 : Int32} (h0 : mm_obj S a0 12 = true) : mm_ex (d + 1) 182 70 [.ref a0, .int x1, .long j2, .null, .int x4] [] S =
    mm_bd (mm_cl d 177 [.int (mm_M S a0 8)] S) (fun v S2 => mm_ex (d + 1) 182 78 [.ref a0, .int x1, .long j2, .null, .int x4] (v.toList ++ [.long j2]) S2) :=
  Eq.trans (mx_lload_n t182 d182_70 (x := j2) rfl) <|
  Eq.trans (mx_aload_n t182 d182_71 (x := a0) rfl) <|
  Eq.trans (mx_geti t182 d182_72 rfl fl12_166 h0) <|
  (mx_stat (st := [.long j2]) t182 [.int (mm_M S a0 8)] d182_75 acn12_323 mxn12_323 st12_323 rfl (Nat.le_of_ble_eq_true rfl) (Nat.le_of_ble_eq_true rfl))
theorem b182_78 {d : Nat} {S : mm_S} {a0 : Nat} {x1 : Int32} {j2 : Int64} {x4 : Int32} {p0 : Int32} {p1 : Int64} : mm_ex (d + 1) 182 78 [.ref a0, .int x1, .long j2, .null, .int x4] [.int p0, .long p1] S =
    mm_bd (mm_cl d 181 [.long p1, .long p0.toInt64, .int x1] S) (fun v S2 => mm_ex (d + 1) 182 83 [.ref a0, .int x1, .long j2, .null, .int x4] (v.toList ++ []) S2) :=
  Eq.trans (mx_i2l t182 d182_78) <|
  Eq.trans (mx_iload_n t182 d182_79 (x := x1) rfl) <|
  (mx_stat (st := []) t182 [.long p1, .long p0.toInt64, .int x1] d182_80 acn12_331 mxn12_331 st12_331 rfl (Nat.le_of_ble_eq_true rfl) (Nat.le_of_ble_eq_true rfl))
theorem b182_83 {d : Nat} {S : mm_S} {a0 : Nat} {x1 : Int32} {j2 : Int64} {x4 : Int32} {p0 : Int64} : mm_ex d 182 83 [.ref a0, .int x1, .long j2, .null, .int x4] [.long p0] S =
    some (some (.long p0), S) :=
  (mx_lret t182 d182_83 rfl)
theorem e182 {d : Nat} {S : mm_S} {a0 : Nat} {x1 : Int32} : mm_cl d 182 [.ref a0, .int x1] S = mm_ex d 182 0 [.ref a0, .int x1, .null, .null, .null] [] S := mm_cl_eq t182 (Nat.le_of_ble_eq_true rfl) rfl
/-! X12_fee -/
theorem dd183_0 : (decode prog_14_method_58_code 0 = .ok (.iconst 0, 1)) ∧ (decode prog_14_method_58_code 1 = .ok (.istore_n 1, 1)) ∧ (decode prog_14_method_58_code 2 = .ok (.iload_n 1, 1)) ∧ (decode prog_14_method_58_code 3 = .ok (.bipush 20, 2)) ∧ (decode prog_14_method_58_code 5 = .ok (.if_icmp .gt 42, 3)) ∧ (decode prog_14_method_58_code 8 = .ok (.aload_n 0, 1)) ∧ (decode prog_14_method_58_code 9 = .ok (.iload_n 1, 1)) ∧ (decode prog_14_method_58_code 10 = .ok (.putfield 70, 3)) ∧ (decode prog_14_method_58_code 13 = .ok (.aload_n 0, 1)) ∧ (decode prog_14_method_58_code 14 = .ok (.invokevirtual 311, 3)) ∧ (decode prog_14_method_58_code 17 = .ok (.aload_n 0, 1)) ∧ (decode prog_14_method_58_code 18 = .ok (.invokevirtual 314, 3)) ∧ (decode prog_14_method_58_code 21 = .ok (.aload_n 0, 1)) ∧ (decode prog_14_method_58_code 22 = .ok (.getfield 287, 3)) ∧ (decode prog_14_method_58_code 25 = .ok (.istore_n 2, 1)) ∧ (decode prog_14_method_58_code 26 = .ok (.aload_n 0, 1)) := by decide +kernel
theorem d183_0 : decode prog_14_method_58_code 0 = .ok (.iconst 0, 1) := dd183_0.1
theorem d183_1 : decode prog_14_method_58_code 1 = .ok (.istore_n 1, 1) := dd183_0.2.1
theorem d183_2 : decode prog_14_method_58_code 2 = .ok (.iload_n 1, 1) := dd183_0.2.2.1
theorem d183_3 : decode prog_14_method_58_code 3 = .ok (.bipush 20, 2) := dd183_0.2.2.2.1
theorem d183_5 : decode prog_14_method_58_code 5 = .ok (.if_icmp .gt 42, 3) := dd183_0.2.2.2.2.1
theorem d183_8 : decode prog_14_method_58_code 8 = .ok (.aload_n 0, 1) := dd183_0.2.2.2.2.2.1
theorem d183_9 : decode prog_14_method_58_code 9 = .ok (.iload_n 1, 1) := dd183_0.2.2.2.2.2.2.1
theorem d183_10 : decode prog_14_method_58_code 10 = .ok (.putfield 70, 3) := dd183_0.2.2.2.2.2.2.2.1
theorem d183_13 : decode prog_14_method_58_code 13 = .ok (.aload_n 0, 1) := dd183_0.2.2.2.2.2.2.2.2.1
theorem d183_14 : decode prog_14_method_58_code 14 = .ok (.invokevirtual 311, 3) := dd183_0.2.2.2.2.2.2.2.2.2.1
theorem d183_17 : decode prog_14_method_58_code 17 = .ok (.aload_n 0, 1) := dd183_0.2.2.2.2.2.2.2.2.2.2.1
theorem d183_18 : decode prog_14_method_58_code 18 = .ok (.invokevirtual 314, 3) := dd183_0.2.2.2.2.2.2.2.2.2.2.2.1
theorem d183_21 : decode prog_14_method_58_code 21 = .ok (.aload_n 0, 1) := dd183_0.2.2.2.2.2.2.2.2.2.2.2.2.1
theorem d183_22 : decode prog_14_method_58_code 22 = .ok (.getfield 287, 3) := dd183_0.2.2.2.2.2.2.2.2.2.2.2.2.2.1
theorem d183_25 : decode prog_14_method_58_code 25 = .ok (.istore_n 2, 1) := dd183_0.2.2.2.2.2.2.2.2.2.2.2.2.2.2.1
theorem d183_26 : decode prog_14_method_58_code 26 = .ok (.aload_n 0, 1) := dd183_0.2.2.2.2.2.2.2.2.2.2.2.2.2.2.2
theorem dd183_27 : (decode prog_14_method_58_code 27 = .ok (.invokevirtual 317, 3)) ∧ (decode prog_14_method_58_code 30 = .ok (.aload_n 0, 1)) ∧ (decode prog_14_method_58_code 31 = .ok (.iconst (-1), 1)) ∧ (decode prog_14_method_58_code 32 = .ok (.putfield 70, 3)) ∧ (decode prog_14_method_58_code 35 = .ok (.iload_n 2, 1)) ∧ (decode prog_14_method_58_code 36 = .ok (.ifCond .ne 5, 3)) ∧ (decode prog_14_method_58_code 39 = .ok (.iload_n 1, 1)) ∧ (decode prog_14_method_58_code 40 = .ok (.ireturn, 1)) ∧ (decode prog_14_method_58_code 41 = .ok (.iinc 1 1, 3)) ∧ (decode prog_14_method_58_code 44 = .ok (.goto (-42), 3)) ∧ (decode prog_14_method_58_code 47 = .ok (.bipush (-5), 2)) ∧ (decode prog_14_method_58_code 49 = .ok (.ireturn, 1)) := by decide +kernel
theorem d183_27 : decode prog_14_method_58_code 27 = .ok (.invokevirtual 317, 3) := dd183_27.1
theorem d183_30 : decode prog_14_method_58_code 30 = .ok (.aload_n 0, 1) := dd183_27.2.1
theorem d183_31 : decode prog_14_method_58_code 31 = .ok (.iconst (-1), 1) := dd183_27.2.2.1
theorem d183_32 : decode prog_14_method_58_code 32 = .ok (.putfield 70, 3) := dd183_27.2.2.2.1
theorem d183_35 : decode prog_14_method_58_code 35 = .ok (.iload_n 2, 1) := dd183_27.2.2.2.2.1
theorem d183_36 : decode prog_14_method_58_code 36 = .ok (.ifCond .ne 5, 3) := dd183_27.2.2.2.2.2.1
theorem d183_39 : decode prog_14_method_58_code 39 = .ok (.iload_n 1, 1) := dd183_27.2.2.2.2.2.2.1
theorem d183_40 : decode prog_14_method_58_code 40 = .ok (.ireturn, 1) := dd183_27.2.2.2.2.2.2.2.1
theorem d183_41 : decode prog_14_method_58_code 41 = .ok (.iinc 1 1, 3) := dd183_27.2.2.2.2.2.2.2.2.1
theorem d183_44 : decode prog_14_method_58_code 44 = .ok (.goto (-42), 3) := dd183_27.2.2.2.2.2.2.2.2.2.1
theorem d183_47 : decode prog_14_method_58_code 47 = .ok (.bipush (-5), 2) := dd183_27.2.2.2.2.2.2.2.2.2.2.1
theorem d183_49 : decode prog_14_method_58_code 49 = .ok (.ireturn, 1) := dd183_27.2.2.2.2.2.2.2.2.2.2.2
theorem b183_0 {d : Nat} {S : mm_S} {a0 : Nat} : mm_ex d 183 0 [.ref a0, .null, .null] [] S =
    mm_ex d 183 2 [.ref a0, .int (nI 0), .null] [] S :=
  Eq.trans (mx_iconst t183 d183_0 (v := nI 0) rfl) <|
  (mx_istore_n t183 d183_1 (ls' := [.ref a0, .int (nI 0), .null]) rfl rfl)
theorem b183_2 {d : Nat} {S : mm_S} {a0 : Nat} {x1 : Int32} {v2 : Value} : mm_ex d 183 2 [.ref a0, .int x1, v2] [] S =
    if (nI 20) < x1 then mm_ex d 183 47 [.ref a0, .int x1, v2] [] S else mm_ex d 183 8 [.ref a0, .int x1, v2] [] S :=
  Eq.trans (mx_iload_n t183 d183_2 (x := x1) rfl) <|
  Eq.trans (mx_bipush t183 d183_3 (v := nI 20) rfl) <|
  (mx_cgt t183 d183_5 (tgt := 47) (by decide))
theorem b183_8 {d : Nat} {S : mm_S} {a0 : Nat} {x1 : Int32} {v2 : Value} (h0 : mm_obj S a0 12 = true) (h1 : mm_rk S a0 = 12) : mm_ex (d + 1) 183 8 [.ref a0, .int x1, v2] [] S =
    mm_bd (mm_cl d 171 [.ref a0] (mm_uM S a0 27 x1)) (fun v S2 => mm_ex (d + 1) 183 17 [.ref a0, .int x1, v2] (v.toList ++ []) S2) :=
  Eq.trans (mx_aload_n t183 d183_8 (x := a0) rfl) <|
  Eq.trans (mx_iload_n t183 d183_9 (x := x1) rfl) <|
  Eq.trans (mx_puti2 t183 d183_10 fl12_70 rfl h0) <|
  Eq.trans (mx_aload_n t183 d183_13 (x := a0) rfl) <|
  (mx_virt (st := []) (k := 12) t183 [] d183_14 vt12_311 rfl rfl (Nat.le_of_ble_eq_true rfl) (Nat.le_of_ble_eq_true rfl) h1)
theorem b183_17 {d : Nat} {S : mm_S} {a0 : Nat} {x1 : Int32} {v2 : Value} (h0 : mm_rk S a0 = 12) : mm_ex (d + 1) 183 17 [.ref a0, .int x1, v2] [] S =
    mm_bd (mm_cl d 173 [.ref a0] S) (fun v S2 => mm_ex (d + 1) 183 21 [.ref a0, .int x1, v2] (v.toList ++ []) S2) :=
  Eq.trans (mx_aload_n t183 d183_17 (x := a0) rfl) <|
  (mx_virt (st := []) (k := 12) t183 [] d183_18 vt12_314 rfl rfl (Nat.le_of_ble_eq_true rfl) (Nat.le_of_ble_eq_true rfl) h0)
theorem b183_21 {d : Nat} {S : mm_S} {a0 : Nat} {x1 : Int32} {v2 : Value} (h0 : mm_obj S a0 12 = true) (h1 : mm_rk S a0 = 12) : mm_ex (d + 1) 183 21 [.ref a0, .int x1, v2] [] S =
    mm_bd (mm_cl d 172 [.ref a0] S) (fun v S2 => mm_ex (d + 1) 183 30 [.ref a0, .int x1, .int (mm_M S a0 43)] (v.toList ++ []) S2) :=
  Eq.trans (mx_aload_n t183 d183_21 (x := a0) rfl) <|
  Eq.trans (mx_geti t183 d183_22 rfl fl12_287 h0) <|
  Eq.trans (mx_istore_n t183 d183_25 (ls' := [.ref a0, .int x1, .int (mm_M S a0 43)]) rfl rfl) <|
  Eq.trans (mx_aload_n t183 d183_26 (x := a0) rfl) <|
  (mx_virt (st := []) (k := 12) t183 [] d183_27 vt12_317 rfl rfl (Nat.le_of_ble_eq_true rfl) (Nat.le_of_ble_eq_true rfl) h1)
theorem b183_30 {d : Nat} {S : mm_S} {a0 : Nat} {x1 : Int32} {x2 : Int32} (h0 : mm_obj S a0 12 = true) : mm_ex d 183 30 [.ref a0, .int x1, .int x2] [] S =
    if x2 = nI 0 then mm_ex d 183 39 [.ref a0, .int x1, .int x2] [] (mm_uM S a0 27 (-1)) else mm_ex d 183 41 [.ref a0, .int x1, .int x2] [] (mm_uM S a0 27 (-1)) :=
  Eq.trans (mx_aload_n t183 d183_30 (x := a0) rfl) <|
  Eq.trans (mx_iconst t183 d183_31 (v := -1) rfl) <|
  Eq.trans (mx_puti2 t183 d183_32 fl12_70 rfl h0) <|
  Eq.trans (mx_iload_n t183 d183_35 (x := x2) rfl) <|
  (mx_ine t183 d183_36 (tgt := 41) (by decide))
theorem b183_39 {d : Nat} {S : mm_S} {a0 : Nat} {x1 : Int32} {x2 : Int32} : mm_ex d 183 39 [.ref a0, .int x1, .int x2] [] S =
    some (some (.int x1), S) :=
  Eq.trans (mx_iload_n t183 d183_39 (x := x1) rfl) <|
  (mx_iret t183 d183_40 (ty := .int) rfl rfl (fun h => nomatch h))
theorem b183_41 {d : Nat} {S : mm_S} {a0 : Nat} {x1 : Int32} {x2 : Int32} : mm_ex d 183 41 [.ref a0, .int x1, .int x2] [] S =
    mm_ex d 183 2 [.ref a0, .int (x1 + nI 1), .int x2] [] S :=
  Eq.trans (mx_iinc t183 d183_41 (x := x1) (v := nI 1) (ls' := [.ref a0, .int (x1 + nI 1), .int x2]) rfl rfl rfl rfl) <|
  (mx_goto t183 d183_44 (tgt := 2) (by decide))
theorem b183_47 {d : Nat} {S : mm_S} {a0 : Nat} {x1 : Int32} {v2 : Value} : mm_ex d 183 47 [.ref a0, .int x1, v2] [] S =
    some (some (.int (-5)), S) :=
  Eq.trans (mx_bipush t183 d183_47 (v := -5) rfl) <|
  (mx_iret t183 d183_49 (ty := .int) rfl rfl (fun h => nomatch h))
theorem e183 {d : Nat} {S : mm_S} {a0 : Nat} : mm_cl d 183 [.ref a0] S = mm_ex d 183 0 [.ref a0, .null, .null] [] S := mm_cl_eq t183 (Nat.le_of_ble_eq_true rfl) rfl
/-! X12_onePrice -/
theorem dd184_0 : (decode prog_14_method_59_code 0 = .ok (.iload_n 1, 1)) ∧ (decode prog_14_method_59_code 1 = .ok (.iconst 0, 1)) ∧ (decode prog_14_method_59_code 2 = .ok (.iconst 1, 1)) ∧ (decode prog_14_method_59_code 3 = .ok (.invokestatic 162, 3)) ∧ (decode prog_14_method_59_code 6 = .ok (.ifCond .ne 5, 3)) ∧ (decode prog_14_method_59_code 9 = .ok (.iconst (-1), 1)) ∧ (decode prog_14_method_59_code 10 = .ok (.ireturn, 1)) ∧ (decode prog_14_method_59_code 11 = .ok (.iconst 0, 1)) ∧ (decode prog_14_method_59_code 12 = .ok (.istore_n 2, 1)) ∧ (decode prog_14_method_59_code 13 = .ok (.iconst 0, 1)) ∧ (decode prog_14_method_59_code 14 = .ok (.istore_n 3, 1)) ∧ (decode prog_14_method_59_code 15 = .ok (.iconst 0, 1)) ∧ (decode prog_14_method_59_code 16 = .ok (.istore 4, 2)) ∧ (decode prog_14_method_59_code 18 = .ok (.iload 4, 2)) ∧ (decode prog_14_method_59_code 20 = .ok (.bipush 99, 2)) ∧ (decode prog_14_method_59_code 22 = .ok (.if_icmp .gt 83, 3)) := by decide +kernel
theorem d184_0 : decode prog_14_method_59_code 0 = .ok (.iload_n 1, 1) := dd184_0.1
theorem d184_1 : decode prog_14_method_59_code 1 = .ok (.iconst 0, 1) := dd184_0.2.1
theorem d184_2 : decode prog_14_method_59_code 2 = .ok (.iconst 1, 1) := dd184_0.2.2.1
theorem d184_3 : decode prog_14_method_59_code 3 = .ok (.invokestatic 162, 3) := dd184_0.2.2.2.1
theorem d184_6 : decode prog_14_method_59_code 6 = .ok (.ifCond .ne 5, 3) := dd184_0.2.2.2.2.1
theorem d184_9 : decode prog_14_method_59_code 9 = .ok (.iconst (-1), 1) := dd184_0.2.2.2.2.2.1
theorem d184_10 : decode prog_14_method_59_code 10 = .ok (.ireturn, 1) := dd184_0.2.2.2.2.2.2.1
theorem d184_11 : decode prog_14_method_59_code 11 = .ok (.iconst 0, 1) := dd184_0.2.2.2.2.2.2.2.1
theorem d184_12 : decode prog_14_method_59_code 12 = .ok (.istore_n 2, 1) := dd184_0.2.2.2.2.2.2.2.2.1
theorem d184_13 : decode prog_14_method_59_code 13 = .ok (.iconst 0, 1) := dd184_0.2.2.2.2.2.2.2.2.2.1
theorem d184_14 : decode prog_14_method_59_code 14 = .ok (.istore_n 3, 1) := dd184_0.2.2.2.2.2.2.2.2.2.2.1
theorem d184_15 : decode prog_14_method_59_code 15 = .ok (.iconst 0, 1) := dd184_0.2.2.2.2.2.2.2.2.2.2.2.1
theorem d184_16 : decode prog_14_method_59_code 16 = .ok (.istore 4, 2) := dd184_0.2.2.2.2.2.2.2.2.2.2.2.2.1
theorem d184_18 : decode prog_14_method_59_code 18 = .ok (.iload 4, 2) := dd184_0.2.2.2.2.2.2.2.2.2.2.2.2.2.1
theorem d184_20 : decode prog_14_method_59_code 20 = .ok (.bipush 99, 2) := dd184_0.2.2.2.2.2.2.2.2.2.2.2.2.2.2.1
theorem d184_22 : decode prog_14_method_59_code 22 = .ok (.if_icmp .gt 83, 3) := dd184_0.2.2.2.2.2.2.2.2.2.2.2.2.2.2.2
theorem dd184_25 : (decode prog_14_method_59_code 25 = .ok (.iconst 0, 1)) ∧ (decode prog_14_method_59_code 26 = .ok (.istore 5, 2)) ∧ (decode prog_14_method_59_code 28 = .ok (.iconst 0, 1)) ∧ (decode prog_14_method_59_code 29 = .ok (.istore 6, 2)) ∧ (decode prog_14_method_59_code 31 = .ok (.iload 6, 2)) ∧ (decode prog_14_method_59_code 33 = .ok (.aload_n 0, 1)) ∧ (decode prog_14_method_59_code 34 = .ok (.getfield 166, 3)) ∧ (decode prog_14_method_59_code 37 = .ok (.if_icmp .ge 44, 3)) ∧ (decode prog_14_method_59_code 40 = .ok (.iload 5, 2)) ∧ (decode prog_14_method_59_code 42 = .ok (.aload_n 0, 1)) ∧ (decode prog_14_method_59_code 43 = .ok (.aload_n 0, 1)) ∧ (decode prog_14_method_59_code 44 = .ok (.getfield 33, 3)) ∧ (decode prog_14_method_59_code 47 = .ok (.iload 6, 2)) ∧ (decode prog_14_method_59_code 49 = .ok (.iaload, 1)) ∧ (decode prog_14_method_59_code 50 = .ok (.invokevirtual 177, 3)) ∧ (decode prog_14_method_59_code 53 = .ok (.iload 4, 2)) := by decide +kernel
theorem d184_25 : decode prog_14_method_59_code 25 = .ok (.iconst 0, 1) := dd184_25.1
theorem d184_26 : decode prog_14_method_59_code 26 = .ok (.istore 5, 2) := dd184_25.2.1
theorem d184_28 : decode prog_14_method_59_code 28 = .ok (.iconst 0, 1) := dd184_25.2.2.1
theorem d184_29 : decode prog_14_method_59_code 29 = .ok (.istore 6, 2) := dd184_25.2.2.2.1
theorem d184_31 : decode prog_14_method_59_code 31 = .ok (.iload 6, 2) := dd184_25.2.2.2.2.1
theorem d184_33 : decode prog_14_method_59_code 33 = .ok (.aload_n 0, 1) := dd184_25.2.2.2.2.2.1
theorem d184_34 : decode prog_14_method_59_code 34 = .ok (.getfield 166, 3) := dd184_25.2.2.2.2.2.2.1
theorem d184_37 : decode prog_14_method_59_code 37 = .ok (.if_icmp .ge 44, 3) := dd184_25.2.2.2.2.2.2.2.1
theorem d184_40 : decode prog_14_method_59_code 40 = .ok (.iload 5, 2) := dd184_25.2.2.2.2.2.2.2.2.1
theorem d184_42 : decode prog_14_method_59_code 42 = .ok (.aload_n 0, 1) := dd184_25.2.2.2.2.2.2.2.2.2.1
theorem d184_43 : decode prog_14_method_59_code 43 = .ok (.aload_n 0, 1) := dd184_25.2.2.2.2.2.2.2.2.2.2.1
theorem d184_44 : decode prog_14_method_59_code 44 = .ok (.getfield 33, 3) := dd184_25.2.2.2.2.2.2.2.2.2.2.2.1
theorem d184_47 : decode prog_14_method_59_code 47 = .ok (.iload 6, 2) := dd184_25.2.2.2.2.2.2.2.2.2.2.2.2.1
theorem d184_49 : decode prog_14_method_59_code 49 = .ok (.iaload, 1) := dd184_25.2.2.2.2.2.2.2.2.2.2.2.2.2.1
theorem d184_50 : decode prog_14_method_59_code 50 = .ok (.invokevirtual 177, 3) := dd184_25.2.2.2.2.2.2.2.2.2.2.2.2.2.2.1
theorem d184_53 : decode prog_14_method_59_code 53 = .ok (.iload 4, 2) := dd184_25.2.2.2.2.2.2.2.2.2.2.2.2.2.2.2
theorem dd184_55 : (decode prog_14_method_59_code 55 = .ok (.if_icmp .lt 16, 3)) ∧ (decode prog_14_method_59_code 58 = .ok (.iload 5, 2)) ∧ (decode prog_14_method_59_code 60 = .ok (.aload_n 0, 1)) ∧ (decode prog_14_method_59_code 61 = .ok (.getfield 40, 3)) ∧ (decode prog_14_method_59_code 64 = .ok (.if_icmp .ge 7, 3)) ∧ (decode prog_14_method_59_code 67 = .ok (.iconst 1, 1)) ∧ (decode prog_14_method_59_code 68 = .ok (.goto 4, 3)) ∧ (decode prog_14_method_59_code 71 = .ok (.iconst 0, 1)) ∧ (decode prog_14_method_59_code 72 = .ok (.iadd, 1)) ∧ (decode prog_14_method_59_code 73 = .ok (.istore 5, 2)) ∧ (decode prog_14_method_59_code 75 = .ok (.iinc 6 1, 3)) ∧ (decode prog_14_method_59_code 78 = .ok (.goto (-47), 3)) ∧ (decode prog_14_method_59_code 81 = .ok (.iload 4, 2)) ∧ (decode prog_14_method_59_code 83 = .ok (.iload 5, 2)) ∧ (decode prog_14_method_59_code 85 = .ok (.imul, 1)) ∧ (decode prog_14_method_59_code 86 = .ok (.iload_n 3, 1)) := by decide +kernel
theorem d184_55 : decode prog_14_method_59_code 55 = .ok (.if_icmp .lt 16, 3) := dd184_55.1
theorem d184_58 : decode prog_14_method_59_code 58 = .ok (.iload 5, 2) := dd184_55.2.1
theorem d184_60 : decode prog_14_method_59_code 60 = .ok (.aload_n 0, 1) := dd184_55.2.2.1
theorem d184_61 : decode prog_14_method_59_code 61 = .ok (.getfield 40, 3) := dd184_55.2.2.2.1
theorem d184_64 : decode prog_14_method_59_code 64 = .ok (.if_icmp .ge 7, 3) := dd184_55.2.2.2.2.1
theorem d184_67 : decode prog_14_method_59_code 67 = .ok (.iconst 1, 1) := dd184_55.2.2.2.2.2.1
theorem d184_68 : decode prog_14_method_59_code 68 = .ok (.goto 4, 3) := dd184_55.2.2.2.2.2.2.1
theorem d184_71 : decode prog_14_method_59_code 71 = .ok (.iconst 0, 1) := dd184_55.2.2.2.2.2.2.2.1
theorem d184_72 : decode prog_14_method_59_code 72 = .ok (.iadd, 1) := dd184_55.2.2.2.2.2.2.2.2.1
theorem d184_73 : decode prog_14_method_59_code 73 = .ok (.istore 5, 2) := dd184_55.2.2.2.2.2.2.2.2.2.1
theorem d184_75 : decode prog_14_method_59_code 75 = .ok (.iinc 6 1, 3) := dd184_55.2.2.2.2.2.2.2.2.2.2.1
theorem d184_78 : decode prog_14_method_59_code 78 = .ok (.goto (-47), 3) := dd184_55.2.2.2.2.2.2.2.2.2.2.2.1
theorem d184_81 : decode prog_14_method_59_code 81 = .ok (.iload 4, 2) := dd184_55.2.2.2.2.2.2.2.2.2.2.2.2.1
theorem d184_83 : decode prog_14_method_59_code 83 = .ok (.iload 5, 2) := dd184_55.2.2.2.2.2.2.2.2.2.2.2.2.2.1
theorem d184_85 : decode prog_14_method_59_code 85 = .ok (.imul, 1) := dd184_55.2.2.2.2.2.2.2.2.2.2.2.2.2.2.1
theorem d184_86 : decode prog_14_method_59_code 86 = .ok (.iload_n 3, 1) := dd184_55.2.2.2.2.2.2.2.2.2.2.2.2.2.2.2
theorem dd184_87 : (decode prog_14_method_59_code 87 = .ok (.if_icmp .le 12, 3)) ∧ (decode prog_14_method_59_code 90 = .ok (.iload 4, 2)) ∧ (decode prog_14_method_59_code 92 = .ok (.istore_n 2, 1)) ∧ (decode prog_14_method_59_code 93 = .ok (.iload 4, 2)) ∧ (decode prog_14_method_59_code 95 = .ok (.iload 5, 2)) ∧ (decode prog_14_method_59_code 97 = .ok (.imul, 1)) ∧ (decode prog_14_method_59_code 98 = .ok (.istore_n 3, 1)) ∧ (decode prog_14_method_59_code 99 = .ok (.iinc 4 1, 3)) ∧ (decode prog_14_method_59_code 102 = .ok (.goto (-84), 3)) ∧ (decode prog_14_method_59_code 105 = .ok (.iload_n 1, 1)) ∧ (decode prog_14_method_59_code 106 = .ok (.ifCond .ne 7, 3)) ∧ (decode prog_14_method_59_code 109 = .ok (.iload_n 2, 1)) ∧ (decode prog_14_method_59_code 110 = .ok (.goto 4, 3)) ∧ (decode prog_14_method_59_code 113 = .ok (.iload_n 3, 1)) ∧ (decode prog_14_method_59_code 114 = .ok (.ireturn, 1)) := by decide +kernel
theorem d184_87 : decode prog_14_method_59_code 87 = .ok (.if_icmp .le 12, 3) := dd184_87.1
theorem d184_90 : decode prog_14_method_59_code 90 = .ok (.iload 4, 2) := dd184_87.2.1
theorem d184_92 : decode prog_14_method_59_code 92 = .ok (.istore_n 2, 1) := dd184_87.2.2.1
theorem d184_93 : decode prog_14_method_59_code 93 = .ok (.iload 4, 2) := dd184_87.2.2.2.1
theorem d184_95 : decode prog_14_method_59_code 95 = .ok (.iload 5, 2) := dd184_87.2.2.2.2.1
theorem d184_97 : decode prog_14_method_59_code 97 = .ok (.imul, 1) := dd184_87.2.2.2.2.2.1
theorem d184_98 : decode prog_14_method_59_code 98 = .ok (.istore_n 3, 1) := dd184_87.2.2.2.2.2.2.1
theorem d184_99 : decode prog_14_method_59_code 99 = .ok (.iinc 4 1, 3) := dd184_87.2.2.2.2.2.2.2.1
theorem d184_102 : decode prog_14_method_59_code 102 = .ok (.goto (-84), 3) := dd184_87.2.2.2.2.2.2.2.2.1
theorem d184_105 : decode prog_14_method_59_code 105 = .ok (.iload_n 1, 1) := dd184_87.2.2.2.2.2.2.2.2.2.1
theorem d184_106 : decode prog_14_method_59_code 106 = .ok (.ifCond .ne 7, 3) := dd184_87.2.2.2.2.2.2.2.2.2.2.1
theorem d184_109 : decode prog_14_method_59_code 109 = .ok (.iload_n 2, 1) := dd184_87.2.2.2.2.2.2.2.2.2.2.2.1
theorem d184_110 : decode prog_14_method_59_code 110 = .ok (.goto 4, 3) := dd184_87.2.2.2.2.2.2.2.2.2.2.2.2.1
theorem d184_113 : decode prog_14_method_59_code 113 = .ok (.iload_n 3, 1) := dd184_87.2.2.2.2.2.2.2.2.2.2.2.2.2.1
theorem d184_114 : decode prog_14_method_59_code 114 = .ok (.ireturn, 1) := dd184_87.2.2.2.2.2.2.2.2.2.2.2.2.2.2
theorem b184_0 {d : Nat} {S : mm_S} {a0 : Nat} {x1 : Int32} : mm_ex (d + 1) 184 0 [.ref a0, .int x1, .null, .null, .null, .null, .null] [] S =
    mm_bd (mm_cl d 128 [.int x1, .int (nI 0), .int (nI 1)] S) (fun v S2 => mm_ex (d + 1) 184 6 [.ref a0, .int x1, .null, .null, .null, .null, .null] (v.toList ++ []) S2) :=
  Eq.trans (mx_iload_n t184 d184_0 (x := x1) rfl) <|
  Eq.trans (mx_iconst t184 d184_1 (v := nI 0) rfl) <|
  Eq.trans (mx_iconst t184 d184_2 (v := nI 1) rfl) <|
  (mx_stat (st := []) t184 [.int x1, .int (nI 0), .int (nI 1)] d184_3 acn12_162 mxn12_162 st12_162 rfl (Nat.le_of_ble_eq_true rfl) (Nat.le_of_ble_eq_true rfl))
theorem b184_6 {d : Nat} {S : mm_S} {a0 : Nat} {x1 : Int32} {p0 : Int32} : mm_ex d 184 6 [.ref a0, .int x1, .null, .null, .null, .null, .null] [.int p0] S =
    if p0 = nI 0 then mm_ex d 184 9 [.ref a0, .int x1, .null, .null, .null, .null, .null] [] S else mm_ex d 184 11 [.ref a0, .int x1, .null, .null, .null, .null, .null] [] S :=
  (mx_ine t184 d184_6 (tgt := 11) (by decide))
theorem b184_9 {d : Nat} {S : mm_S} {a0 : Nat} {x1 : Int32} : mm_ex d 184 9 [.ref a0, .int x1, .null, .null, .null, .null, .null] [] S =
    some (some (.int (-1)), S) :=
  Eq.trans (mx_iconst t184 d184_9 (v := -1) rfl) <|
  (mx_iret t184 d184_10 (ty := .int) rfl rfl (fun h => nomatch h))
theorem b184_11 {d : Nat} {S : mm_S} {a0 : Nat} {x1 : Int32} : mm_ex d 184 11 [.ref a0, .int x1, .null, .null, .null, .null, .null] [] S =
    mm_ex d 184 18 [.ref a0, .int x1, .int (nI 0), .int (nI 0), .int (nI 0), .null, .null] [] S :=
  Eq.trans (mx_iconst t184 d184_11 (v := nI 0) rfl) <|
  Eq.trans (mx_istore_n t184 d184_12 (ls' := [.ref a0, .int x1, .int (nI 0), .null, .null, .null, .null]) rfl rfl) <|
  Eq.trans (mx_iconst t184 d184_13 (v := nI 0) rfl) <|
  Eq.trans (mx_istore_n t184 d184_14 (ls' := [.ref a0, .int x1, .int (nI 0), .int (nI 0), .null, .null, .null]) rfl rfl) <|
  Eq.trans (mx_iconst t184 d184_15 (v := nI 0) rfl) <|
  (mx_istore t184 d184_16 (ls' := [.ref a0, .int x1, .int (nI 0), .int (nI 0), .int (nI 0), .null, .null]) rfl rfl)
theorem b184_18 {d : Nat} {S : mm_S} {a0 : Nat} {x1 : Int32} {x2 : Int32} {x3 : Int32} {x4 : Int32} {v5 : Value} {v6 : Value} : mm_ex d 184 18 [.ref a0, .int x1, .int x2, .int x3, .int x4, v5, v6] [] S =
    if (nI 99) < x4 then mm_ex d 184 105 [.ref a0, .int x1, .int x2, .int x3, .int x4, v5, v6] [] S else mm_ex d 184 25 [.ref a0, .int x1, .int x2, .int x3, .int x4, v5, v6] [] S :=
  Eq.trans (mx_iload t184 d184_18 (x := x4) rfl) <|
  Eq.trans (mx_bipush t184 d184_20 (v := nI 99) rfl) <|
  (mx_cgt t184 d184_22 (tgt := 105) (by decide))
theorem b184_25 {d : Nat} {S : mm_S} {a0 : Nat} {x1 : Int32} {x2 : Int32} {x3 : Int32} {x4 : Int32} {v5 : Value} {v6 : Value} : mm_ex d 184 25 [.ref a0, .int x1, .int x2, .int x3, .int x4, v5, v6] [] S =
    mm_ex d 184 31 [.ref a0, .int x1, .int x2, .int x3, .int x4, .int (nI 0), .int (nI 0)] [] S :=
  Eq.trans (mx_iconst t184 d184_25 (v := nI 0) rfl) <|
  Eq.trans (mx_istore t184 d184_26 (ls' := [.ref a0, .int x1, .int x2, .int x3, .int x4, .int (nI 0), v6]) rfl rfl) <|
  Eq.trans (mx_iconst t184 d184_28 (v := nI 0) rfl) <|
  (mx_istore t184 d184_29 (ls' := [.ref a0, .int x1, .int x2, .int x3, .int x4, .int (nI 0), .int (nI 0)]) rfl rfl)
theorem b184_31 {d : Nat} {S : mm_S} {a0 : Nat} {x1 : Int32} {x2 : Int32} {x3 : Int32} {x4 : Int32} {x5 : Int32} {x6 : Int32} (h0 : mm_obj S a0 12 = true) : mm_ex d 184 31 [.ref a0, .int x1, .int x2, .int x3, .int x4, .int x5, .int x6] [] S =
    if (mm_M S a0 8) ≤ x6 then mm_ex d 184 81 [.ref a0, .int x1, .int x2, .int x3, .int x4, .int x5, .int x6] [] S else mm_ex d 184 40 [.ref a0, .int x1, .int x2, .int x3, .int x4, .int x5, .int x6] [] S :=
  Eq.trans (mx_iload t184 d184_31 (x := x6) rfl) <|
  Eq.trans (mx_aload_n t184 d184_33 (x := a0) rfl) <|
  Eq.trans (mx_geti t184 d184_34 rfl fl12_166 h0) <|
  (mx_cge t184 d184_37 (tgt := 81) (by decide))
theorem b184_40 {d : Nat} {S : mm_S} {a0 : Nat} {x1 : Int32} {x2 : Int32} {x3 : Int32} {x4 : Int32} {x5 : Int32} {x6 : Int32} (h0 : mm_obj S a0 12 = true) (h1 : (mm_R S a0 9).isSome = true) (h2 : mm_inb x6 (mm_N S (mm_rg S a0 9)) = true) (h3 : mm_arr S (mm_rg S a0 9) 13 = true) (h4 : mm_rk S a0 = 12) : mm_ex (d + 1) 184 40 [.ref a0, .int x1, .int x2, .int x3, .int x4, .int x5, .int x6] [] S =
    mm_bd (mm_cl d 156 [.ref a0, .int (mm_M S (mm_rg S a0 9) (x6).toNatClampNeg)] S) (fun v S2 => mm_ex (d + 1) 184 53 [.ref a0, .int x1, .int x2, .int x3, .int x4, .int x5, .int x6] (v.toList ++ [.int x5]) S2) :=
  Eq.trans (mx_iload t184 d184_40 (x := x5) rfl) <|
  Eq.trans (mx_aload_n t184 d184_42 (x := a0) rfl) <|
  Eq.trans (mx_aload_n t184 d184_43 (x := a0) rfl) <|
  Eq.trans (mx_getR t184 d184_44 rfl fl12_33 h0 h1) <|
  Eq.trans (mx_iload t184 d184_47 (x := x6) rfl) <|
  Eq.trans (mx_iald t184 d184_49 h3 h2) <|
  (mx_virt (st := [.int x5]) (k := 12) t184 [.int (mm_M S (mm_rg S a0 9) (x6).toNatClampNeg)] d184_50 vt12_177 rfl rfl (Nat.le_of_ble_eq_true rfl) (Nat.le_of_ble_eq_true rfl) h4)
theorem b184_53 {d : Nat} {S : mm_S} {a0 : Nat} {x1 : Int32} {x2 : Int32} {x3 : Int32} {x4 : Int32} {x5 : Int32} {x6 : Int32} {p0 : Int32} {p1 : Int32} : mm_ex d 184 53 [.ref a0, .int x1, .int x2, .int x3, .int x4, .int x5, .int x6] [.int p0, .int p1] S =
    if p0 < x4 then mm_ex d 184 71 [.ref a0, .int x1, .int x2, .int x3, .int x4, .int x5, .int x6] [.int p1] S else mm_ex d 184 58 [.ref a0, .int x1, .int x2, .int x3, .int x4, .int x5, .int x6] [.int p1] S :=
  Eq.trans (mx_iload t184 d184_53 (x := x4) rfl) <|
  (mx_clt t184 d184_55 (tgt := 71) (by decide))
theorem b184_58 {d : Nat} {S : mm_S} {a0 : Nat} {x1 : Int32} {x2 : Int32} {x3 : Int32} {x4 : Int32} {x5 : Int32} {x6 : Int32} {p0 : Int32} (h0 : mm_obj S a0 12 = true) : mm_ex d 184 58 [.ref a0, .int x1, .int x2, .int x3, .int x4, .int x5, .int x6] [.int p0] S =
    if (mm_M S a0 11) ≤ x5 then mm_ex d 184 71 [.ref a0, .int x1, .int x2, .int x3, .int x4, .int x5, .int x6] [.int p0] S else mm_ex d 184 67 [.ref a0, .int x1, .int x2, .int x3, .int x4, .int x5, .int x6] [.int p0] S :=
  Eq.trans (mx_iload t184 d184_58 (x := x5) rfl) <|
  Eq.trans (mx_aload_n t184 d184_60 (x := a0) rfl) <|
  Eq.trans (mx_geti t184 d184_61 rfl fl12_40 h0) <|
  (mx_cge t184 d184_64 (tgt := 71) (by decide))
theorem b184_67 {d : Nat} {S : mm_S} {a0 : Nat} {x1 : Int32} {x2 : Int32} {x3 : Int32} {x4 : Int32} {x5 : Int32} {x6 : Int32} {p0 : Int32} : mm_ex d 184 67 [.ref a0, .int x1, .int x2, .int x3, .int x4, .int x5, .int x6] [.int p0] S =
    mm_ex d 184 31 [.ref a0, .int x1, .int x2, .int x3, .int x4, .int (p0 + (nI 1)), .int (x6 + nI 1)] [] S :=
  Eq.trans (mx_iconst t184 d184_67 (v := nI 1) rfl) <|
  Eq.trans (mx_goto t184 d184_68 (tgt := 72) (by decide)) <|
  Eq.trans (mx_iadd t184 d184_72) <|
  Eq.trans (mx_istore t184 d184_73 (ls' := [.ref a0, .int x1, .int x2, .int x3, .int x4, .int (p0 + (nI 1)), .int x6]) rfl rfl) <|
  Eq.trans (mx_iinc t184 d184_75 (x := x6) (v := nI 1) (ls' := [.ref a0, .int x1, .int x2, .int x3, .int x4, .int (p0 + (nI 1)), .int (x6 + nI 1)]) rfl rfl rfl rfl) <|
  (mx_goto t184 d184_78 (tgt := 31) (by decide))
theorem b184_71 {d : Nat} {S : mm_S} {a0 : Nat} {x1 : Int32} {x2 : Int32} {x3 : Int32} {x4 : Int32} {x5 : Int32} {x6 : Int32} {p0 : Int32} : mm_ex d 184 71 [.ref a0, .int x1, .int x2, .int x3, .int x4, .int x5, .int x6] [.int p0] S =
    mm_ex d 184 31 [.ref a0, .int x1, .int x2, .int x3, .int x4, .int (p0 + (nI 0)), .int (x6 + nI 1)] [] S :=
  Eq.trans (mx_iconst t184 d184_71 (v := nI 0) rfl) <|
  Eq.trans (mx_iadd t184 d184_72) <|
  Eq.trans (mx_istore t184 d184_73 (ls' := [.ref a0, .int x1, .int x2, .int x3, .int x4, .int (p0 + (nI 0)), .int x6]) rfl rfl) <|
  Eq.trans (mx_iinc t184 d184_75 (x := x6) (v := nI 1) (ls' := [.ref a0, .int x1, .int x2, .int x3, .int x4, .int (p0 + (nI 0)), .int (x6 + nI 1)]) rfl rfl rfl rfl) <|
  (mx_goto t184 d184_78 (tgt := 31) (by decide))
theorem b184_81 {d : Nat} {S : mm_S} {a0 : Nat} {x1 : Int32} {x2 : Int32} {x3 : Int32} {x4 : Int32} {x5 : Int32} {x6 : Int32} : mm_ex d 184 81 [.ref a0, .int x1, .int x2, .int x3, .int x4, .int x5, .int x6] [] S =
    if (x4 * x5) ≤ x3 then mm_ex d 184 99 [.ref a0, .int x1, .int x2, .int x3, .int x4, .int x5, .int x6] [] S else mm_ex d 184 90 [.ref a0, .int x1, .int x2, .int x3, .int x4, .int x5, .int x6] [] S :=
  Eq.trans (mx_iload t184 d184_81 (x := x4) rfl) <|
  Eq.trans (mx_iload t184 d184_83 (x := x5) rfl) <|
  Eq.trans (mx_imul t184 d184_85) <|
  Eq.trans (mx_iload_n t184 d184_86 (x := x3) rfl) <|
  (mx_cle t184 d184_87 (tgt := 99) (by decide))
theorem b184_90 {d : Nat} {S : mm_S} {a0 : Nat} {x1 : Int32} {x2 : Int32} {x3 : Int32} {x4 : Int32} {x5 : Int32} {x6 : Int32} : mm_ex d 184 90 [.ref a0, .int x1, .int x2, .int x3, .int x4, .int x5, .int x6] [] S =
    mm_ex d 184 18 [.ref a0, .int x1, .int x4, .int (x4 * x5), .int (x4 + nI 1), .int x5, .int x6] [] S :=
  Eq.trans (mx_iload t184 d184_90 (x := x4) rfl) <|
  Eq.trans (mx_istore_n t184 d184_92 (ls' := [.ref a0, .int x1, .int x4, .int x3, .int x4, .int x5, .int x6]) rfl rfl) <|
  Eq.trans (mx_iload t184 d184_93 (x := x4) rfl) <|
  Eq.trans (mx_iload t184 d184_95 (x := x5) rfl) <|
  Eq.trans (mx_imul t184 d184_97) <|
  Eq.trans (mx_istore_n t184 d184_98 (ls' := [.ref a0, .int x1, .int x4, .int (x4 * x5), .int x4, .int x5, .int x6]) rfl rfl) <|
  Eq.trans (mx_iinc t184 d184_99 (x := x4) (v := nI 1) (ls' := [.ref a0, .int x1, .int x4, .int (x4 * x5), .int (x4 + nI 1), .int x5, .int x6]) rfl rfl rfl rfl) <|
  (mx_goto t184 d184_102 (tgt := 18) (by decide))
theorem b184_99 {d : Nat} {S : mm_S} {a0 : Nat} {x1 : Int32} {x2 : Int32} {x3 : Int32} {x4 : Int32} {x5 : Int32} {x6 : Int32} : mm_ex d 184 99 [.ref a0, .int x1, .int x2, .int x3, .int x4, .int x5, .int x6] [] S =
    mm_ex d 184 18 [.ref a0, .int x1, .int x2, .int x3, .int (x4 + nI 1), .int x5, .int x6] [] S :=
  Eq.trans (mx_iinc t184 d184_99 (x := x4) (v := nI 1) (ls' := [.ref a0, .int x1, .int x2, .int x3, .int (x4 + nI 1), .int x5, .int x6]) rfl rfl rfl rfl) <|
  (mx_goto t184 d184_102 (tgt := 18) (by decide))
theorem b184_105 {d : Nat} {S : mm_S} {a0 : Nat} {x1 : Int32} {x2 : Int32} {x3 : Int32} {x4 : Int32} {v5 : Value} {v6 : Value} : mm_ex d 184 105 [.ref a0, .int x1, .int x2, .int x3, .int x4, v5, v6] [] S =
    if x1 = nI 0 then mm_ex d 184 109 [.ref a0, .int x1, .int x2, .int x3, .int x4, v5, v6] [] S else mm_ex d 184 113 [.ref a0, .int x1, .int x2, .int x3, .int x4, v5, v6] [] S :=
  Eq.trans (mx_iload_n t184 d184_105 (x := x1) rfl) <|
  (mx_ine t184 d184_106 (tgt := 113) (by decide))
theorem b184_109 {d : Nat} {S : mm_S} {a0 : Nat} {x1 : Int32} {x2 : Int32} {x3 : Int32} {x4 : Int32} {v5 : Value} {v6 : Value} : mm_ex d 184 109 [.ref a0, .int x1, .int x2, .int x3, .int x4, v5, v6] [] S =
    some (some (.int x2), S) :=
  Eq.trans (mx_iload_n t184 d184_109 (x := x2) rfl) <|
  Eq.trans (mx_goto t184 d184_110 (tgt := 114) (by decide)) <|
  (mx_iret t184 d184_114 (ty := .int) rfl rfl (fun h => nomatch h))
theorem b184_113 {d : Nat} {S : mm_S} {a0 : Nat} {x1 : Int32} {x2 : Int32} {x3 : Int32} {x4 : Int32} {v5 : Value} {v6 : Value} : mm_ex d 184 113 [.ref a0, .int x1, .int x2, .int x3, .int x4, v5, v6] [] S =
    some (some (.int x3), S) :=
  Eq.trans (mx_iload_n t184 d184_113 (x := x3) rfl) <|
  (mx_iret t184 d184_114 (ty := .int) rfl rfl (fun h => nomatch h))
theorem e184 {d : Nat} {S : mm_S} {a0 : Nat} {x1 : Int32} : mm_cl d 184 [.ref a0, .int x1] S = mm_ex d 184 0 [.ref a0, .int x1, .null, .null, .null, .null, .null] [] S := mm_cl_eq t184 (Nat.le_of_ble_eq_true rfl) rfl
/-! X12_othersGain -/
theorem dd185_0 : (decode prog_14_method_60_code 0 = .ok (.aload_n 0, 1)) ∧ (decode prog_14_method_60_code 1 = .ok (.invokevirtual 311, 3)) ∧ (decode prog_14_method_60_code 4 = .ok (.iload_n 2, 1)) ∧ (decode prog_14_method_60_code 5 = .ok (.ifCond .eq 60, 3)) ∧ (decode prog_14_method_60_code 8 = .ok (.iconst 0, 1)) ∧ (decode prog_14_method_60_code 9 = .ok (.istore_n 3, 1)) ∧ (decode prog_14_method_60_code 10 = .ok (.iconst 0, 1)) ∧ (decode prog_14_method_60_code 11 = .ok (.istore 4, 2)) ∧ (decode prog_14_method_60_code 13 = .ok (.iload 4, 2)) ∧ (decode prog_14_method_60_code 15 = .ok (.aload_n 0, 1)) ∧ (decode prog_14_method_60_code 16 = .ok (.getfield 296, 3)) ∧ (decode prog_14_method_60_code 19 = .ok (.if_icmp .ge 41, 3)) ∧ (decode prog_14_method_60_code 22 = .ok (.aload_n 0, 1)) ∧ (decode prog_14_method_60_code 23 = .ok (.getfield 33, 3)) ∧ (decode prog_14_method_60_code 26 = .ok (.iload_n 3, 1)) ∧ (decode prog_14_method_60_code 27 = .ok (.aload_n 0, 1)) := by decide +kernel
theorem d185_0 : decode prog_14_method_60_code 0 = .ok (.aload_n 0, 1) := dd185_0.1
theorem d185_1 : decode prog_14_method_60_code 1 = .ok (.invokevirtual 311, 3) := dd185_0.2.1
theorem d185_4 : decode prog_14_method_60_code 4 = .ok (.iload_n 2, 1) := dd185_0.2.2.1
theorem d185_5 : decode prog_14_method_60_code 5 = .ok (.ifCond .eq 60, 3) := dd185_0.2.2.2.1
theorem d185_8 : decode prog_14_method_60_code 8 = .ok (.iconst 0, 1) := dd185_0.2.2.2.2.1
theorem d185_9 : decode prog_14_method_60_code 9 = .ok (.istore_n 3, 1) := dd185_0.2.2.2.2.2.1
theorem d185_10 : decode prog_14_method_60_code 10 = .ok (.iconst 0, 1) := dd185_0.2.2.2.2.2.2.1
theorem d185_11 : decode prog_14_method_60_code 11 = .ok (.istore 4, 2) := dd185_0.2.2.2.2.2.2.2.1
theorem d185_13 : decode prog_14_method_60_code 13 = .ok (.iload 4, 2) := dd185_0.2.2.2.2.2.2.2.2.1
theorem d185_15 : decode prog_14_method_60_code 15 = .ok (.aload_n 0, 1) := dd185_0.2.2.2.2.2.2.2.2.2.1
theorem d185_16 : decode prog_14_method_60_code 16 = .ok (.getfield 296, 3) := dd185_0.2.2.2.2.2.2.2.2.2.2.1
theorem d185_19 : decode prog_14_method_60_code 19 = .ok (.if_icmp .ge 41, 3) := dd185_0.2.2.2.2.2.2.2.2.2.2.2.1
theorem d185_22 : decode prog_14_method_60_code 22 = .ok (.aload_n 0, 1) := dd185_0.2.2.2.2.2.2.2.2.2.2.2.2.1
theorem d185_23 : decode prog_14_method_60_code 23 = .ok (.getfield 33, 3) := dd185_0.2.2.2.2.2.2.2.2.2.2.2.2.2.1
theorem d185_26 : decode prog_14_method_60_code 26 = .ok (.iload_n 3, 1) := dd185_0.2.2.2.2.2.2.2.2.2.2.2.2.2.2.1
theorem d185_27 : decode prog_14_method_60_code 27 = .ok (.aload_n 0, 1) := dd185_0.2.2.2.2.2.2.2.2.2.2.2.2.2.2.2
theorem dd185_28 : (decode prog_14_method_60_code 28 = .ok (.getfield 33, 3)) ∧ (decode prog_14_method_60_code 31 = .ok (.iload 4, 2)) ∧ (decode prog_14_method_60_code 33 = .ok (.iaload, 1)) ∧ (decode prog_14_method_60_code 34 = .ok (.iastore, 1)) ∧ (decode prog_14_method_60_code 35 = .ok (.iload_n 3, 1)) ∧ (decode prog_14_method_60_code 36 = .ok (.aload_n 0, 1)) ∧ (decode prog_14_method_60_code 37 = .ok (.getfield 102, 3)) ∧ (decode prog_14_method_60_code 40 = .ok (.iload 4, 2)) ∧ (decode prog_14_method_60_code 42 = .ok (.iaload, 1)) ∧ (decode prog_14_method_60_code 43 = .ok (.iload_n 1, 1)) ∧ (decode prog_14_method_60_code 44 = .ok (.if_icmp .ne 7, 3)) ∧ (decode prog_14_method_60_code 47 = .ok (.iconst 0, 1)) ∧ (decode prog_14_method_60_code 48 = .ok (.goto 4, 3)) ∧ (decode prog_14_method_60_code 51 = .ok (.iconst 1, 1)) ∧ (decode prog_14_method_60_code 52 = .ok (.iadd, 1)) ∧ (decode prog_14_method_60_code 53 = .ok (.istore_n 3, 1)) := by decide +kernel
theorem d185_28 : decode prog_14_method_60_code 28 = .ok (.getfield 33, 3) := dd185_28.1
theorem d185_31 : decode prog_14_method_60_code 31 = .ok (.iload 4, 2) := dd185_28.2.1
theorem d185_33 : decode prog_14_method_60_code 33 = .ok (.iaload, 1) := dd185_28.2.2.1
theorem d185_34 : decode prog_14_method_60_code 34 = .ok (.iastore, 1) := dd185_28.2.2.2.1
theorem d185_35 : decode prog_14_method_60_code 35 = .ok (.iload_n 3, 1) := dd185_28.2.2.2.2.1
theorem d185_36 : decode prog_14_method_60_code 36 = .ok (.aload_n 0, 1) := dd185_28.2.2.2.2.2.1
theorem d185_37 : decode prog_14_method_60_code 37 = .ok (.getfield 102, 3) := dd185_28.2.2.2.2.2.2.1
theorem d185_40 : decode prog_14_method_60_code 40 = .ok (.iload 4, 2) := dd185_28.2.2.2.2.2.2.2.1
theorem d185_42 : decode prog_14_method_60_code 42 = .ok (.iaload, 1) := dd185_28.2.2.2.2.2.2.2.2.1
theorem d185_43 : decode prog_14_method_60_code 43 = .ok (.iload_n 1, 1) := dd185_28.2.2.2.2.2.2.2.2.2.1
theorem d185_44 : decode prog_14_method_60_code 44 = .ok (.if_icmp .ne 7, 3) := dd185_28.2.2.2.2.2.2.2.2.2.2.1
theorem d185_47 : decode prog_14_method_60_code 47 = .ok (.iconst 0, 1) := dd185_28.2.2.2.2.2.2.2.2.2.2.2.1
theorem d185_48 : decode prog_14_method_60_code 48 = .ok (.goto 4, 3) := dd185_28.2.2.2.2.2.2.2.2.2.2.2.2.1
theorem d185_51 : decode prog_14_method_60_code 51 = .ok (.iconst 1, 1) := dd185_28.2.2.2.2.2.2.2.2.2.2.2.2.2.1
theorem d185_52 : decode prog_14_method_60_code 52 = .ok (.iadd, 1) := dd185_28.2.2.2.2.2.2.2.2.2.2.2.2.2.2.1
theorem d185_53 : decode prog_14_method_60_code 53 = .ok (.istore_n 3, 1) := dd185_28.2.2.2.2.2.2.2.2.2.2.2.2.2.2.2
theorem dd185_54 : (decode prog_14_method_60_code 54 = .ok (.iinc 4 1, 3)) ∧ (decode prog_14_method_60_code 57 = .ok (.goto (-44), 3)) ∧ (decode prog_14_method_60_code 60 = .ok (.aload_n 0, 1)) ∧ (decode prog_14_method_60_code 61 = .ok (.iload_n 3, 1)) ∧ (decode prog_14_method_60_code 62 = .ok (.putfield 166, 3)) ∧ (decode prog_14_method_60_code 65 = .ok (.aload_n 0, 1)) ∧ (decode prog_14_method_60_code 66 = .ok (.invokevirtual 314, 3)) ∧ (decode prog_14_method_60_code 69 = .ok (.iconst 0, 1)) ∧ (decode prog_14_method_60_code 70 = .ok (.istore_n 3, 1)) ∧ (decode prog_14_method_60_code 71 = .ok (.iconst 0, 1)) ∧ (decode prog_14_method_60_code 72 = .ok (.istore 4, 2)) ∧ (decode prog_14_method_60_code 74 = .ok (.iload 4, 2)) ∧ (decode prog_14_method_60_code 76 = .ok (.aload_n 0, 1)) ∧ (decode prog_14_method_60_code 77 = .ok (.getfield 296, 3)) ∧ (decode prog_14_method_60_code 80 = .ok (.if_icmp .ge 39, 3)) ∧ (decode prog_14_method_60_code 83 = .ok (.iload_n 3, 1)) := by decide +kernel
theorem d185_54 : decode prog_14_method_60_code 54 = .ok (.iinc 4 1, 3) := dd185_54.1
theorem d185_57 : decode prog_14_method_60_code 57 = .ok (.goto (-44), 3) := dd185_54.2.1
theorem d185_60 : decode prog_14_method_60_code 60 = .ok (.aload_n 0, 1) := dd185_54.2.2.1
theorem d185_61 : decode prog_14_method_60_code 61 = .ok (.iload_n 3, 1) := dd185_54.2.2.2.1
theorem d185_62 : decode prog_14_method_60_code 62 = .ok (.putfield 166, 3) := dd185_54.2.2.2.2.1
theorem d185_65 : decode prog_14_method_60_code 65 = .ok (.aload_n 0, 1) := dd185_54.2.2.2.2.2.1
theorem d185_66 : decode prog_14_method_60_code 66 = .ok (.invokevirtual 314, 3) := dd185_54.2.2.2.2.2.2.1
theorem d185_69 : decode prog_14_method_60_code 69 = .ok (.iconst 0, 1) := dd185_54.2.2.2.2.2.2.2.1
theorem d185_70 : decode prog_14_method_60_code 70 = .ok (.istore_n 3, 1) := dd185_54.2.2.2.2.2.2.2.2.1
theorem d185_71 : decode prog_14_method_60_code 71 = .ok (.iconst 0, 1) := dd185_54.2.2.2.2.2.2.2.2.2.1
theorem d185_72 : decode prog_14_method_60_code 72 = .ok (.istore 4, 2) := dd185_54.2.2.2.2.2.2.2.2.2.2.1
theorem d185_74 : decode prog_14_method_60_code 74 = .ok (.iload 4, 2) := dd185_54.2.2.2.2.2.2.2.2.2.2.2.1
theorem d185_76 : decode prog_14_method_60_code 76 = .ok (.aload_n 0, 1) := dd185_54.2.2.2.2.2.2.2.2.2.2.2.2.1
theorem d185_77 : decode prog_14_method_60_code 77 = .ok (.getfield 296, 3) := dd185_54.2.2.2.2.2.2.2.2.2.2.2.2.2.1
theorem d185_80 : decode prog_14_method_60_code 80 = .ok (.if_icmp .ge 39, 3) := dd185_54.2.2.2.2.2.2.2.2.2.2.2.2.2.2.1
theorem d185_83 : decode prog_14_method_60_code 83 = .ok (.iload_n 3, 1) := dd185_54.2.2.2.2.2.2.2.2.2.2.2.2.2.2.2
theorem dd185_84 : (decode prog_14_method_60_code 84 = .ok (.aload_n 0, 1)) ∧ (decode prog_14_method_60_code 85 = .ok (.getfield 102, 3)) ∧ (decode prog_14_method_60_code 88 = .ok (.iload 4, 2)) ∧ (decode prog_14_method_60_code 90 = .ok (.iaload, 1)) ∧ (decode prog_14_method_60_code 91 = .ok (.iload_n 1, 1)) ∧ (decode prog_14_method_60_code 92 = .ok (.if_icmp .ne 7, 3)) ∧ (decode prog_14_method_60_code 95 = .ok (.iconst 0, 1)) ∧ (decode prog_14_method_60_code 96 = .ok (.goto 15, 3)) ∧ (decode prog_14_method_60_code 99 = .ok (.aload_n 0, 1)) ∧ (decode prog_14_method_60_code 100 = .ok (.getfield 27, 3)) ∧ (decode prog_14_method_60_code 103 = .ok (.aload_n 0, 1)) ∧ (decode prog_14_method_60_code 104 = .ok (.getfield 102, 3)) ∧ (decode prog_14_method_60_code 107 = .ok (.iload 4, 2)) ∧ (decode prog_14_method_60_code 109 = .ok (.iaload, 1)) ∧ (decode prog_14_method_60_code 110 = .ok (.iaload, 1)) ∧ (decode prog_14_method_60_code 111 = .ok (.iadd, 1)) := by decide +kernel
theorem d185_84 : decode prog_14_method_60_code 84 = .ok (.aload_n 0, 1) := dd185_84.1
theorem d185_85 : decode prog_14_method_60_code 85 = .ok (.getfield 102, 3) := dd185_84.2.1
theorem d185_88 : decode prog_14_method_60_code 88 = .ok (.iload 4, 2) := dd185_84.2.2.1
theorem d185_90 : decode prog_14_method_60_code 90 = .ok (.iaload, 1) := dd185_84.2.2.2.1
theorem d185_91 : decode prog_14_method_60_code 91 = .ok (.iload_n 1, 1) := dd185_84.2.2.2.2.1
theorem d185_92 : decode prog_14_method_60_code 92 = .ok (.if_icmp .ne 7, 3) := dd185_84.2.2.2.2.2.1
theorem d185_95 : decode prog_14_method_60_code 95 = .ok (.iconst 0, 1) := dd185_84.2.2.2.2.2.2.1
theorem d185_96 : decode prog_14_method_60_code 96 = .ok (.goto 15, 3) := dd185_84.2.2.2.2.2.2.2.1
theorem d185_99 : decode prog_14_method_60_code 99 = .ok (.aload_n 0, 1) := dd185_84.2.2.2.2.2.2.2.2.1
theorem d185_100 : decode prog_14_method_60_code 100 = .ok (.getfield 27, 3) := dd185_84.2.2.2.2.2.2.2.2.2.1
theorem d185_103 : decode prog_14_method_60_code 103 = .ok (.aload_n 0, 1) := dd185_84.2.2.2.2.2.2.2.2.2.2.1
theorem d185_104 : decode prog_14_method_60_code 104 = .ok (.getfield 102, 3) := dd185_84.2.2.2.2.2.2.2.2.2.2.2.1
theorem d185_107 : decode prog_14_method_60_code 107 = .ok (.iload 4, 2) := dd185_84.2.2.2.2.2.2.2.2.2.2.2.2.1
theorem d185_109 : decode prog_14_method_60_code 109 = .ok (.iaload, 1) := dd185_84.2.2.2.2.2.2.2.2.2.2.2.2.2.1
theorem d185_110 : decode prog_14_method_60_code 110 = .ok (.iaload, 1) := dd185_84.2.2.2.2.2.2.2.2.2.2.2.2.2.2.1
theorem d185_111 : decode prog_14_method_60_code 111 = .ok (.iadd, 1) := dd185_84.2.2.2.2.2.2.2.2.2.2.2.2.2.2.2
theorem dd185_112 : (decode prog_14_method_60_code 112 = .ok (.istore_n 3, 1)) ∧ (decode prog_14_method_60_code 113 = .ok (.iinc 4 1, 3)) ∧ (decode prog_14_method_60_code 116 = .ok (.goto (-42), 3)) ∧ (decode prog_14_method_60_code 119 = .ok (.aload_n 0, 1)) ∧ (decode prog_14_method_60_code 120 = .ok (.invokevirtual 317, 3)) ∧ (decode prog_14_method_60_code 123 = .ok (.iload_n 3, 1)) ∧ (decode prog_14_method_60_code 124 = .ok (.ireturn, 1)) := by decide +kernel
theorem d185_112 : decode prog_14_method_60_code 112 = .ok (.istore_n 3, 1) := dd185_112.1
theorem d185_113 : decode prog_14_method_60_code 113 = .ok (.iinc 4 1, 3) := dd185_112.2.1
theorem d185_116 : decode prog_14_method_60_code 116 = .ok (.goto (-42), 3) := dd185_112.2.2.1
theorem d185_119 : decode prog_14_method_60_code 119 = .ok (.aload_n 0, 1) := dd185_112.2.2.2.1
theorem d185_120 : decode prog_14_method_60_code 120 = .ok (.invokevirtual 317, 3) := dd185_112.2.2.2.2.1
theorem d185_123 : decode prog_14_method_60_code 123 = .ok (.iload_n 3, 1) := dd185_112.2.2.2.2.2.1
theorem d185_124 : decode prog_14_method_60_code 124 = .ok (.ireturn, 1) := dd185_112.2.2.2.2.2.2
theorem b185_0 {d : Nat} {S : mm_S} {a0 : Nat} {x1 : Int32} {x2 : Int32} (h0 : mm_rk S a0 = 12) : mm_ex (d + 1) 185 0 [.ref a0, .int x1, .int x2, .null, .null] [] S =
    mm_bd (mm_cl d 171 [.ref a0] S) (fun v S2 => mm_ex (d + 1) 185 4 [.ref a0, .int x1, .int x2, .null, .null] (v.toList ++ []) S2) :=
  Eq.trans (mx_aload_n t185 d185_0 (x := a0) rfl) <|
  (mx_virt (st := []) (k := 12) t185 [] d185_1 vt12_311 rfl rfl (Nat.le_of_ble_eq_true rfl) (Nat.le_of_ble_eq_true rfl) h0)
theorem b185_4 {d : Nat} {S : mm_S} {a0 : Nat} {x1 : Int32} {x2 : Int32} : mm_ex d 185 4 [.ref a0, .int x1, .int x2, .null, .null] [] S =
    if x2 = nI 0 then mm_ex d 185 65 [.ref a0, .int x1, .int x2, .null, .null] [] S else mm_ex d 185 8 [.ref a0, .int x1, .int x2, .null, .null] [] S :=
  Eq.trans (mx_iload_n t185 d185_4 (x := x2) rfl) <|
  (mx_ieq t185 d185_5 (tgt := 65) (by decide))
theorem b185_8 {d : Nat} {S : mm_S} {a0 : Nat} {x1 : Int32} {x2 : Int32} : mm_ex d 185 8 [.ref a0, .int x1, .int x2, .null, .null] [] S =
    mm_ex d 185 13 [.ref a0, .int x1, .int x2, .int (nI 0), .int (nI 0)] [] S :=
  Eq.trans (mx_iconst t185 d185_8 (v := nI 0) rfl) <|
  Eq.trans (mx_istore_n t185 d185_9 (ls' := [.ref a0, .int x1, .int x2, .int (nI 0), .null]) rfl rfl) <|
  Eq.trans (mx_iconst t185 d185_10 (v := nI 0) rfl) <|
  (mx_istore t185 d185_11 (ls' := [.ref a0, .int x1, .int x2, .int (nI 0), .int (nI 0)]) rfl rfl)
theorem b185_13 {d : Nat} {S : mm_S} {a0 : Nat} {x1 : Int32} {x2 : Int32} {x3 : Int32} {x4 : Int32} (h0 : mm_obj S a0 12 = true) : mm_ex d 185 13 [.ref a0, .int x1, .int x2, .int x3, .int x4] [] S =
    if (mm_M S a0 47) ≤ x4 then mm_ex d 185 60 [.ref a0, .int x1, .int x2, .int x3, .int x4] [] S else mm_ex d 185 22 [.ref a0, .int x1, .int x2, .int x3, .int x4] [] S :=
  Eq.trans (mx_iload t185 d185_13 (x := x4) rfl) <|
  Eq.trans (mx_aload_n t185 d185_15 (x := a0) rfl) <|
  Eq.trans (mx_geti t185 d185_16 rfl fl12_296 h0) <|
  (mx_cge t185 d185_19 (tgt := 60) (by decide))
theorem b185_22 {d : Nat} {S : mm_S} {a0 : Nat} {x1 : Int32} {x2 : Int32} {x3 : Int32} {x4 : Int32} (h0 : mm_obj S a0 12 = true) (h1 : (mm_R S a0 9).isSome = true) (h2 : mm_inb x4 (mm_N S (mm_rg S a0 9)) = true) (h3 : mm_arr S (mm_rg S a0 9) 13 = true) (h4 : mm_inb x3 (mm_N S (mm_rg S a0 9)) = true) (h5 : (mm_R S a0 44).isSome = true) : mm_ex d 185 22 [.ref a0, .int x1, .int x2, .int x3, .int x4] [] S =
    mm_ex d 185 42 [.ref a0, .int x1, .int x2, .int x3, .int x4] [.int x4, .ref (mm_rg S a0 44), .int x3] (mm_uM S (mm_rg S a0 9) (x3).toNatClampNeg (mm_M S (mm_rg S a0 9) (x4).toNatClampNeg)) :=
  Eq.trans (mx_aload_n t185 d185_22 (x := a0) rfl) <|
  Eq.trans (mx_getR t185 d185_23 rfl fl12_33 h0 h1) <|
  Eq.trans (mx_iload_n t185 d185_26 (x := x3) rfl) <|
  Eq.trans (mx_aload_n t185 d185_27 (x := a0) rfl) <|
  Eq.trans (mx_getR t185 d185_28 rfl fl12_33 h0 h1) <|
  Eq.trans (mx_iload t185 d185_31 (x := x4) rfl) <|
  Eq.trans (mx_iald t185 d185_33 h3 h2) <|
  Eq.trans (mx_iast2 t185 d185_34 h3 h4) <|
  Eq.trans (mx_iload_n t185 d185_35 (x := x3) rfl) <|
  Eq.trans (mx_aload_n t185 d185_36 (x := a0) rfl) <|
  Eq.trans (mx_getR t185 d185_37 rfl fl12_102 h0 h5) <|
  (mx_iload t185 d185_40 (x := x4) rfl)
theorem b185_42 {d : Nat} {S : mm_S} {a0 : Nat} {x1 : Int32} {x2 : Int32} {x3 : Int32} {x4 : Int32} {p0 : Int32} {p1 : Nat} {p2 : Int32} (h0 : mm_inb p0 (mm_N S p1) = true) (h1 : mm_arr S p1 13 = true) : mm_ex d 185 42 [.ref a0, .int x1, .int x2, .int x3, .int x4] [.int p0, .ref p1, .int p2] S =
    if (mm_M S p1 (p0).toNatClampNeg) = x1 then mm_ex d 185 47 [.ref a0, .int x1, .int x2, .int x3, .int x4] [.int p2] S else mm_ex d 185 51 [.ref a0, .int x1, .int x2, .int x3, .int x4] [.int p2] S :=
  Eq.trans (mx_iald t185 d185_42 h1 h0) <|
  Eq.trans (mx_iload_n t185 d185_43 (x := x1) rfl) <|
  (mx_cne t185 d185_44 (tgt := 51) (by decide))
theorem b185_47 {d : Nat} {S : mm_S} {a0 : Nat} {x1 : Int32} {x2 : Int32} {x3 : Int32} {x4 : Int32} {p0 : Int32} : mm_ex d 185 47 [.ref a0, .int x1, .int x2, .int x3, .int x4] [.int p0] S =
    mm_ex d 185 13 [.ref a0, .int x1, .int x2, .int (p0 + (nI 0)), .int (x4 + nI 1)] [] S :=
  Eq.trans (mx_iconst t185 d185_47 (v := nI 0) rfl) <|
  Eq.trans (mx_goto t185 d185_48 (tgt := 52) (by decide)) <|
  Eq.trans (mx_iadd t185 d185_52) <|
  Eq.trans (mx_istore_n t185 d185_53 (ls' := [.ref a0, .int x1, .int x2, .int (p0 + (nI 0)), .int x4]) rfl rfl) <|
  Eq.trans (mx_iinc t185 d185_54 (x := x4) (v := nI 1) (ls' := [.ref a0, .int x1, .int x2, .int (p0 + (nI 0)), .int (x4 + nI 1)]) rfl rfl rfl rfl) <|
  (mx_goto t185 d185_57 (tgt := 13) (by decide))
theorem b185_51 {d : Nat} {S : mm_S} {a0 : Nat} {x1 : Int32} {x2 : Int32} {x3 : Int32} {x4 : Int32} {p0 : Int32} : mm_ex d 185 51 [.ref a0, .int x1, .int x2, .int x3, .int x4] [.int p0] S =
    mm_ex d 185 13 [.ref a0, .int x1, .int x2, .int (p0 + (nI 1)), .int (x4 + nI 1)] [] S :=
  Eq.trans (mx_iconst t185 d185_51 (v := nI 1) rfl) <|
  Eq.trans (mx_iadd t185 d185_52) <|
  Eq.trans (mx_istore_n t185 d185_53 (ls' := [.ref a0, .int x1, .int x2, .int (p0 + (nI 1)), .int x4]) rfl rfl) <|
  Eq.trans (mx_iinc t185 d185_54 (x := x4) (v := nI 1) (ls' := [.ref a0, .int x1, .int x2, .int (p0 + (nI 1)), .int (x4 + nI 1)]) rfl rfl rfl rfl) <|
  (mx_goto t185 d185_57 (tgt := 13) (by decide))
theorem b185_60 {d : Nat} {S : mm_S} {a0 : Nat} {x1 : Int32} {x2 : Int32} {x3 : Int32} {x4 : Int32} (h0 : mm_obj S a0 12 = true) (h1 : mm_rk S a0 = 12) : mm_ex (d + 1) 185 60 [.ref a0, .int x1, .int x2, .int x3, .int x4] [] S =
    mm_bd (mm_cl d 173 [.ref a0] (mm_uM S a0 8 x3)) (fun v S2 => mm_ex (d + 1) 185 69 [.ref a0, .int x1, .int x2, .int x3, .int x4] (v.toList ++ []) S2) :=
  Eq.trans (mx_aload_n t185 d185_60 (x := a0) rfl) <|
  Eq.trans (mx_iload_n t185 d185_61 (x := x3) rfl) <|
  Eq.trans (mx_puti2 t185 d185_62 fl12_166 rfl h0) <|
  Eq.trans (mx_aload_n t185 d185_65 (x := a0) rfl) <|
  (mx_virt (st := []) (k := 12) t185 [] d185_66 vt12_314 rfl rfl (Nat.le_of_ble_eq_true rfl) (Nat.le_of_ble_eq_true rfl) h1)
theorem b185_65 {d : Nat} {S : mm_S} {a0 : Nat} {x1 : Int32} {x2 : Int32} (h0 : mm_rk S a0 = 12) : mm_ex (d + 1) 185 65 [.ref a0, .int x1, .int x2, .null, .null] [] S =
    mm_bd (mm_cl d 173 [.ref a0] S) (fun v S2 => mm_ex (d + 1) 185 69 [.ref a0, .int x1, .int x2, .null, .null] (v.toList ++ []) S2) :=
  Eq.trans (mx_aload_n t185 d185_65 (x := a0) rfl) <|
  (mx_virt (st := []) (k := 12) t185 [] d185_66 vt12_314 rfl rfl (Nat.le_of_ble_eq_true rfl) (Nat.le_of_ble_eq_true rfl) h0)
theorem b185_69 {d : Nat} {S : mm_S} {a0 : Nat} {x1 : Int32} {x2 : Int32} {v3 : Value} {v4 : Value} : mm_ex d 185 69 [.ref a0, .int x1, .int x2, v3, v4] [] S =
    mm_ex d 185 74 [.ref a0, .int x1, .int x2, .int (nI 0), .int (nI 0)] [] S :=
  Eq.trans (mx_iconst t185 d185_69 (v := nI 0) rfl) <|
  Eq.trans (mx_istore_n t185 d185_70 (ls' := [.ref a0, .int x1, .int x2, .int (nI 0), v4]) rfl rfl) <|
  Eq.trans (mx_iconst t185 d185_71 (v := nI 0) rfl) <|
  (mx_istore t185 d185_72 (ls' := [.ref a0, .int x1, .int x2, .int (nI 0), .int (nI 0)]) rfl rfl)
theorem b185_74 {d : Nat} {S : mm_S} {a0 : Nat} {x1 : Int32} {x2 : Int32} {x3 : Int32} {x4 : Int32} (h0 : mm_obj S a0 12 = true) : mm_ex d 185 74 [.ref a0, .int x1, .int x2, .int x3, .int x4] [] S =
    if (mm_M S a0 47) ≤ x4 then mm_ex d 185 119 [.ref a0, .int x1, .int x2, .int x3, .int x4] [] S else mm_ex d 185 83 [.ref a0, .int x1, .int x2, .int x3, .int x4] [] S :=
  Eq.trans (mx_iload t185 d185_74 (x := x4) rfl) <|
  Eq.trans (mx_aload_n t185 d185_76 (x := a0) rfl) <|
  Eq.trans (mx_geti t185 d185_77 rfl fl12_296 h0) <|
  (mx_cge t185 d185_80 (tgt := 119) (by decide))
theorem b185_83 {d : Nat} {S : mm_S} {a0 : Nat} {x1 : Int32} {x2 : Int32} {x3 : Int32} {x4 : Int32} (h0 : mm_obj S a0 12 = true) (h1 : (mm_R S a0 44).isSome = true) (h2 : mm_inb x4 (mm_N S (mm_rg S a0 44)) = true) (h3 : mm_arr S (mm_rg S a0 44) 13 = true) : mm_ex d 185 83 [.ref a0, .int x1, .int x2, .int x3, .int x4] [] S =
    if (mm_M S (mm_rg S a0 44) (x4).toNatClampNeg) = x1 then mm_ex d 185 95 [.ref a0, .int x1, .int x2, .int x3, .int x4] [.int x3] S else mm_ex d 185 99 [.ref a0, .int x1, .int x2, .int x3, .int x4] [.int x3] S :=
  Eq.trans (mx_iload_n t185 d185_83 (x := x3) rfl) <|
  Eq.trans (mx_aload_n t185 d185_84 (x := a0) rfl) <|
  Eq.trans (mx_getR t185 d185_85 rfl fl12_102 h0 h1) <|
  Eq.trans (mx_iload t185 d185_88 (x := x4) rfl) <|
  Eq.trans (mx_iald t185 d185_90 h3 h2) <|
  Eq.trans (mx_iload_n t185 d185_91 (x := x1) rfl) <|
  (mx_cne t185 d185_92 (tgt := 99) (by decide))
theorem b185_95 {d : Nat} {S : mm_S} {a0 : Nat} {x1 : Int32} {x2 : Int32} {x3 : Int32} {x4 : Int32} {p0 : Int32} : mm_ex d 185 95 [.ref a0, .int x1, .int x2, .int x3, .int x4] [.int p0] S =
    mm_ex d 185 74 [.ref a0, .int x1, .int x2, .int (p0 + (nI 0)), .int (x4 + nI 1)] [] S :=
  Eq.trans (mx_iconst t185 d185_95 (v := nI 0) rfl) <|
  Eq.trans (mx_goto t185 d185_96 (tgt := 111) (by decide)) <|
  Eq.trans (mx_iadd t185 d185_111) <|
  Eq.trans (mx_istore_n t185 d185_112 (ls' := [.ref a0, .int x1, .int x2, .int (p0 + (nI 0)), .int x4]) rfl rfl) <|
  Eq.trans (mx_iinc t185 d185_113 (x := x4) (v := nI 1) (ls' := [.ref a0, .int x1, .int x2, .int (p0 + (nI 0)), .int (x4 + nI 1)]) rfl rfl rfl rfl) <|
  (mx_goto t185 d185_116 (tgt := 74) (by decide))
theorem b185_99 {d : Nat} {S : mm_S} {a0 : Nat} {x1 : Int32} {x2 : Int32} {x3 : Int32} {x4 : Int32} {p0 : Int32} (h0 : mm_obj S a0 12 = true) (h1 : (mm_R S a0 6).isSome = true) (h2 : (mm_R S a0 44).isSome = true) (h3 : mm_inb x4 (mm_N S (mm_rg S a0 44)) = true) (h4 : mm_arr S (mm_rg S a0 44) 13 = true) (h5 : mm_inb (mm_M S (mm_rg S a0 44) (x4).toNatClampNeg) (mm_N S (mm_rg S a0 6)) = true) (h6 : mm_arr S (mm_rg S a0 6) 13 = true) : mm_ex d 185 99 [.ref a0, .int x1, .int x2, .int x3, .int x4] [.int p0] S =
    mm_ex d 185 74 [.ref a0, .int x1, .int x2, .int (p0 + (mm_M S (mm_rg S a0 6) (mm_M S (mm_rg S a0 44) (x4).toNatClampNeg).toNatClampNeg)), .int (x4 + nI 1)] [] S :=
  Eq.trans (mx_aload_n t185 d185_99 (x := a0) rfl) <|
  Eq.trans (mx_getR t185 d185_100 rfl fl12_27 h0 h1) <|
  Eq.trans (mx_aload_n t185 d185_103 (x := a0) rfl) <|
  Eq.trans (mx_getR t185 d185_104 rfl fl12_102 h0 h2) <|
  Eq.trans (mx_iload t185 d185_107 (x := x4) rfl) <|
  Eq.trans (mx_iald t185 d185_109 h4 h3) <|
  Eq.trans (mx_iald t185 d185_110 h6 h5) <|
  Eq.trans (mx_iadd t185 d185_111) <|
  Eq.trans (mx_istore_n t185 d185_112 (ls' := [.ref a0, .int x1, .int x2, .int (p0 + (mm_M S (mm_rg S a0 6) (mm_M S (mm_rg S a0 44) (x4).toNatClampNeg).toNatClampNeg)), .int x4]) rfl rfl) <|
  Eq.trans (mx_iinc t185 d185_113 (x := x4) (v := nI 1) (ls' := [.ref a0, .int x1, .int x2, .int (p0 + (mm_M S (mm_rg S a0 6) (mm_M S (mm_rg S a0 44) (x4).toNatClampNeg).toNatClampNeg)), .int (x4 + nI 1)]) rfl rfl rfl rfl) <|
  (mx_goto t185 d185_116 (tgt := 74) (by decide))
theorem b185_119 {d : Nat} {S : mm_S} {a0 : Nat} {x1 : Int32} {x2 : Int32} {x3 : Int32} {x4 : Int32} (h0 : mm_rk S a0 = 12) : mm_ex (d + 1) 185 119 [.ref a0, .int x1, .int x2, .int x3, .int x4] [] S =
    mm_bd (mm_cl d 172 [.ref a0] S) (fun v S2 => mm_ex (d + 1) 185 123 [.ref a0, .int x1, .int x2, .int x3, .int x4] (v.toList ++ []) S2) :=
  Eq.trans (mx_aload_n t185 d185_119 (x := a0) rfl) <|
  (mx_virt (st := []) (k := 12) t185 [] d185_120 vt12_317 rfl rfl (Nat.le_of_ble_eq_true rfl) (Nat.le_of_ble_eq_true rfl) h0)
theorem b185_123 {d : Nat} {S : mm_S} {a0 : Nat} {x1 : Int32} {x2 : Int32} {x3 : Int32} {x4 : Int32} : mm_ex d 185 123 [.ref a0, .int x1, .int x2, .int x3, .int x4] [] S =
    some (some (.int x3), S) :=
  Eq.trans (mx_iload_n t185 d185_123 (x := x3) rfl) <|
  (mx_iret t185 d185_124 (ty := .int) rfl rfl (fun h => nomatch h))
theorem e185 {d : Nat} {S : mm_S} {a0 : Nat} {x1 : Int32} {x2 : Int32} : mm_cl d 185 [.ref a0, .int x1, .int x2] S = mm_ex d 185 0 [.ref a0, .int x1, .int x2, .null, .null] [] S := mm_cl_eq t185 (Nat.le_of_ble_eq_true rfl) rfl
/-! X12_aunt -/
theorem d186_0 : decode prog_14_method_61_code 0 = .ok (.aload_n 0, 1) := by decide +kernel
theorem d186_1 : decode prog_14_method_61_code 1 = .ok (.iload_n 1, 1) := by decide +kernel
theorem d186_2 : decode prog_14_method_61_code 2 = .ok (.invokevirtual 169, 3) := by decide +kernel
theorem d186_5 : decode prog_14_method_61_code 5 = .ok (.ifCond .ne 6, 3) := by decide +kernel
theorem d186_8 : decode prog_14_method_61_code 8 = .ok (.ldc 183, 2) := by decide +kernel
theorem d186_10 : decode prog_14_method_61_code 10 = .ok (.ireturn, 1) := by decide +kernel
theorem d186_11 : decode prog_14_method_61_code 11 = .ok (.aload_n 0, 1) := by decide +kernel
theorem d186_12 : decode prog_14_method_61_code 12 = .ok (.iload_n 1, 1) := by decide +kernel
theorem d186_13 : decode prog_14_method_61_code 13 = .ok (.invokevirtual 173, 3) := by decide +kernel
theorem d186_16 : decode prog_14_method_61_code 16 = .ok (.bipush (-5), 2) := by decide +kernel
theorem d186_18 : decode prog_14_method_61_code 18 = .ok (.if_icmp .ne 9, 3) := by decide +kernel
theorem d186_21 : decode prog_14_method_61_code 21 = .ok (.ldc_w 335, 3) := by decide +kernel
theorem d186_24 : decode prog_14_method_61_code 24 = .ok (.goto 16, 3) := by decide +kernel
theorem d186_27 : decode prog_14_method_61_code 27 = .ok (.aload_n 0, 1) := by decide +kernel
theorem d186_28 : decode prog_14_method_61_code 28 = .ok (.iload_n 1, 1) := by decide +kernel
theorem d186_29 : decode prog_14_method_61_code 29 = .ok (.iconst 0, 1) := by decide +kernel
theorem d186_30 : decode prog_14_method_61_code 30 = .ok (.invokevirtual 336, 3) := by decide +kernel
theorem d186_33 : decode prog_14_method_61_code 33 = .ok (.aload_n 0, 1) := by decide +kernel
theorem d186_34 : decode prog_14_method_61_code 34 = .ok (.iload_n 1, 1) := by decide +kernel
theorem d186_35 : decode prog_14_method_61_code 35 = .ok (.iconst 1, 1) := by decide +kernel
theorem d186_36 : decode prog_14_method_61_code 36 = .ok (.invokevirtual 336, 3) := by decide +kernel
theorem d186_39 : decode prog_14_method_61_code 39 = .ok (.isub, 1) := by decide +kernel
theorem d186_40 : decode prog_14_method_61_code 40 = .ok (.ireturn, 1) := by decide +kernel
theorem b186_0 {d : Nat} {S : mm_S} {a0 : Nat} {x1 : Int32} (h0 : mm_rk S a0 = 12) : mm_ex (d + 1) 186 0 [.ref a0, .int x1] [] S =
    mm_bd (mm_cl d 129 [.ref a0, .int x1] S) (fun v S2 => mm_ex (d + 1) 186 5 [.ref a0, .int x1] (v.toList ++ []) S2) :=
  Eq.trans (mx_aload_n t186 d186_0 (x := a0) rfl) <|
  Eq.trans (mx_iload_n t186 d186_1 (x := x1) rfl) <|
  (mx_virt (st := []) (k := 12) t186 [.int x1] d186_2 vt12_169 rfl rfl (Nat.le_of_ble_eq_true rfl) (Nat.le_of_ble_eq_true rfl) h0)
theorem b186_5 {d : Nat} {S : mm_S} {a0 : Nat} {x1 : Int32} {p0 : Int32} : mm_ex d 186 5 [.ref a0, .int x1] [.int p0] S =
    if p0 = nI 0 then mm_ex d 186 8 [.ref a0, .int x1] [] S else mm_ex d 186 11 [.ref a0, .int x1] [] S :=
  (mx_ine t186 d186_5 (tgt := 11) (by decide))
theorem b186_8 {d : Nat} {S : mm_S} {a0 : Nat} {x1 : Int32} : mm_ex d 186 8 [.ref a0, .int x1] [] S =
    some (some (.int (-100001)), S) :=
  Eq.trans (mx_ldc t186 d186_8 (v := .int (-100001)) lc12_183) <|
  (mx_iret t186 d186_10 (ty := .int) rfl rfl (fun h => nomatch h))
theorem b186_11 {d : Nat} {S : mm_S} {a0 : Nat} {x1 : Int32} (h0 : mm_rk S a0 = 12) : mm_ex (d + 1) 186 11 [.ref a0, .int x1] [] S =
    mm_bd (mm_cl d 130 [.ref a0, .int x1] S) (fun v S2 => mm_ex (d + 1) 186 16 [.ref a0, .int x1] (v.toList ++ []) S2) :=
  Eq.trans (mx_aload_n t186 d186_11 (x := a0) rfl) <|
  Eq.trans (mx_iload_n t186 d186_12 (x := x1) rfl) <|
  (mx_virt (st := []) (k := 12) t186 [.int x1] d186_13 vt12_173 rfl rfl (Nat.le_of_ble_eq_true rfl) (Nat.le_of_ble_eq_true rfl) h0)
theorem b186_16 {d : Nat} {S : mm_S} {a0 : Nat} {x1 : Int32} {p0 : Int32} : mm_ex d 186 16 [.ref a0, .int x1] [.int p0] S =
    if p0 = (-5) then mm_ex d 186 21 [.ref a0, .int x1] [] S else mm_ex d 186 27 [.ref a0, .int x1] [] S :=
  Eq.trans (mx_bipush t186 d186_16 (v := -5) rfl) <|
  (mx_cne t186 d186_18 (tgt := 27) (by decide))
theorem b186_21 {d : Nat} {S : mm_S} {a0 : Nat} {x1 : Int32} : mm_ex d 186 21 [.ref a0, .int x1] [] S =
    some (some (.int (-100003)), S) :=
  Eq.trans (mx_ldc_w t186 d186_21 (v := -100003) lc12_335) <|
  Eq.trans (mx_goto t186 d186_24 (tgt := 40) (by decide)) <|
  (mx_iret t186 d186_40 (ty := .int) rfl rfl (fun h => nomatch h))
theorem b186_27 {d : Nat} {S : mm_S} {a0 : Nat} {x1 : Int32} (h0 : mm_rk S a0 = 12) : mm_ex (d + 1) 186 27 [.ref a0, .int x1] [] S =
    mm_bd (mm_cl d 185 [.ref a0, .int x1, .int (nI 0)] S) (fun v S2 => mm_ex (d + 1) 186 33 [.ref a0, .int x1] (v.toList ++ []) S2) :=
  Eq.trans (mx_aload_n t186 d186_27 (x := a0) rfl) <|
  Eq.trans (mx_iload_n t186 d186_28 (x := x1) rfl) <|
  Eq.trans (mx_iconst t186 d186_29 (v := nI 0) rfl) <|
  (mx_virt (st := []) (k := 12) t186 [.int x1, .int (nI 0)] d186_30 vt12_336 rfl rfl (Nat.le_of_ble_eq_true rfl) (Nat.le_of_ble_eq_true rfl) h0)
theorem b186_33 {d : Nat} {S : mm_S} {a0 : Nat} {x1 : Int32} {p0 : Int32} (h0 : mm_rk S a0 = 12) : mm_ex (d + 1) 186 33 [.ref a0, .int x1] [.int p0] S =
    mm_bd (mm_cl d 185 [.ref a0, .int x1, .int (nI 1)] S) (fun v S2 => mm_ex (d + 1) 186 39 [.ref a0, .int x1] (v.toList ++ [.int p0]) S2) :=
  Eq.trans (mx_aload_n t186 d186_33 (x := a0) rfl) <|
  Eq.trans (mx_iload_n t186 d186_34 (x := x1) rfl) <|
  Eq.trans (mx_iconst t186 d186_35 (v := nI 1) rfl) <|
  (mx_virt (st := [.int p0]) (k := 12) t186 [.int x1, .int (nI 1)] d186_36 vt12_336 rfl rfl (Nat.le_of_ble_eq_true rfl) (Nat.le_of_ble_eq_true rfl) h0)
theorem b186_39 {d : Nat} {S : mm_S} {a0 : Nat} {x1 : Int32} {p0 : Int32} {p1 : Int32} : mm_ex d 186 39 [.ref a0, .int x1] [.int p0, .int p1] S =
    some (some (.int (p1 - p0)), S) :=
  Eq.trans (mx_isub t186 d186_39) <|
  (mx_iret t186 d186_40 (ty := .int) rfl rfl (fun h => nomatch h))
theorem e186 {d : Nat} {S : mm_S} {a0 : Nat} {x1 : Int32} : mm_cl d 186 [.ref a0, .int x1] S = mm_ex d 186 0 [.ref a0, .int x1] [] S := mm_cl_eq t186 (Nat.le_of_ble_eq_true rfl) rfl
/-! X12_slips -/
theorem d187_0 : decode prog_14_method_62_code 0 = .ok (.iload_n 1, 1) := by decide +kernel
theorem d187_1 : decode prog_14_method_62_code 1 = .ok (.iconst 0, 1) := by decide +kernel
theorem d187_2 : decode prog_14_method_62_code 2 = .ok (.bipush 10, 2) := by decide +kernel
theorem d187_4 : decode prog_14_method_62_code 4 = .ok (.invokestatic 162, 3) := by decide +kernel
theorem d187_7 : decode prog_14_method_62_code 7 = .ok (.ifCond .ne 6, 3) := by decide +kernel
theorem d187_10 : decode prog_14_method_62_code 10 = .ok (.bipush (-2), 2) := by decide +kernel
theorem d187_12 : decode prog_14_method_62_code 12 = .ok (.ireturn, 1) := by decide +kernel
theorem d187_13 : decode prog_14_method_62_code 13 = .ok (.aload_n 0, 1) := by decide +kernel
theorem d187_14 : decode prog_14_method_62_code 14 = .ok (.getfield 340, 3) := by decide +kernel
theorem d187_17 : decode prog_14_method_62_code 17 = .ok (.istore_n 2, 1) := by decide +kernel
theorem d187_18 : decode prog_14_method_62_code 18 = .ok (.aload_n 0, 1) := by decide +kernel
theorem d187_19 : decode prog_14_method_62_code 19 = .ok (.iload_n 1, 1) := by decide +kernel
theorem d187_20 : decode prog_14_method_62_code 20 = .ok (.putfield 340, 3) := by decide +kernel
theorem d187_23 : decode prog_14_method_62_code 23 = .ok (.iload_n 2, 1) := by decide +kernel
theorem d187_24 : decode prog_14_method_62_code 24 = .ok (.ireturn, 1) := by decide +kernel
theorem b187_0 {d : Nat} {S : mm_S} {a0 : Nat} {x1 : Int32} : mm_ex (d + 1) 187 0 [.ref a0, .int x1, .null] [] S =
    mm_bd (mm_cl d 128 [.int x1, .int (nI 0), .int (nI 10)] S) (fun v S2 => mm_ex (d + 1) 187 7 [.ref a0, .int x1, .null] (v.toList ++ []) S2) :=
  Eq.trans (mx_iload_n t187 d187_0 (x := x1) rfl) <|
  Eq.trans (mx_iconst t187 d187_1 (v := nI 0) rfl) <|
  Eq.trans (mx_bipush t187 d187_2 (v := nI 10) rfl) <|
  (mx_stat (st := []) t187 [.int x1, .int (nI 0), .int (nI 10)] d187_4 acn12_162 mxn12_162 st12_162 rfl (Nat.le_of_ble_eq_true rfl) (Nat.le_of_ble_eq_true rfl))
theorem b187_7 {d : Nat} {S : mm_S} {a0 : Nat} {x1 : Int32} {p0 : Int32} : mm_ex d 187 7 [.ref a0, .int x1, .null] [.int p0] S =
    if p0 = nI 0 then mm_ex d 187 10 [.ref a0, .int x1, .null] [] S else mm_ex d 187 13 [.ref a0, .int x1, .null] [] S :=
  (mx_ine t187 d187_7 (tgt := 13) (by decide))
theorem b187_10 {d : Nat} {S : mm_S} {a0 : Nat} {x1 : Int32} : mm_ex d 187 10 [.ref a0, .int x1, .null] [] S =
    some (some (.int (-2)), S) :=
  Eq.trans (mx_bipush t187 d187_10 (v := -2) rfl) <|
  (mx_iret t187 d187_12 (ty := .int) rfl rfl (fun h => nomatch h))
theorem b187_13 {d : Nat} {S : mm_S} {a0 : Nat} {x1 : Int32} (h0 : mm_obj S a0 12 = true) : mm_ex d 187 13 [.ref a0, .int x1, .null] [] S =
    some (some (.int (mm_M S a0 14)), (mm_uM S a0 14 x1)) :=
  Eq.trans (mx_aload_n t187 d187_13 (x := a0) rfl) <|
  Eq.trans (mx_geti t187 d187_14 rfl fl12_340 h0) <|
  Eq.trans (mx_istore_n t187 d187_17 (ls' := [.ref a0, .int x1, .int (mm_M S a0 14)]) rfl rfl) <|
  Eq.trans (mx_aload_n t187 d187_18 (x := a0) rfl) <|
  Eq.trans (mx_iload_n t187 d187_19 (x := x1) rfl) <|
  Eq.trans (mx_puti2 t187 d187_20 fl12_340 rfl h0) <|
  Eq.trans (mx_iload_n t187 d187_23 (x := mm_M S a0 14) rfl) <|
  (mx_iret t187 d187_24 (ty := .int) rfl rfl (fun h => nomatch h))
theorem e187 {d : Nat} {S : mm_S} {a0 : Nat} {x1 : Int32} : mm_cl d 187 [.ref a0, .int x1] S = mm_ex d 187 0 [.ref a0, .int x1, .null] [] S := mm_cl_eq t187 (Nat.le_of_ble_eq_true rfl) rfl
/-! X12_keepsAt -/
theorem dd188_0 : (decode prog_14_method_63_code 0 = .ok (.iconst 0, 1)) ∧ (decode prog_14_method_63_code 1 = .ok (.istore_n 2, 1)) ∧ (decode prog_14_method_63_code 2 = .ok (.iload_n 2, 1)) ∧ (decode prog_14_method_63_code 3 = .ok (.bipush 6, 2)) ∧ (decode prog_14_method_63_code 5 = .ok (.if_icmp .ge 60, 3)) ∧ (decode prog_14_method_63_code 8 = .ok (.aload_n 0, 1)) ∧ (decode prog_14_method_63_code 9 = .ok (.getfield 114, 3)) ∧ (decode prog_14_method_63_code 12 = .ok (.bipush 6, 2)) ∧ (decode prog_14_method_63_code 14 = .ok (.iload_n 1, 1)) ∧ (decode prog_14_method_63_code 15 = .ok (.imul, 1)) ∧ (decode prog_14_method_63_code 16 = .ok (.iload_n 2, 1)) ∧ (decode prog_14_method_63_code 17 = .ok (.iadd, 1)) ∧ (decode prog_14_method_63_code 18 = .ok (.aload_n 0, 1)) ∧ (decode prog_14_method_63_code 19 = .ok (.getfield 33, 3)) ∧ (decode prog_14_method_63_code 22 = .ok (.iload_n 2, 1)) ∧ (decode prog_14_method_63_code 23 = .ok (.iaload, 1)) := by decide +kernel
theorem d188_0 : decode prog_14_method_63_code 0 = .ok (.iconst 0, 1) := dd188_0.1
theorem d188_1 : decode prog_14_method_63_code 1 = .ok (.istore_n 2, 1) := dd188_0.2.1
theorem d188_2 : decode prog_14_method_63_code 2 = .ok (.iload_n 2, 1) := dd188_0.2.2.1
theorem d188_3 : decode prog_14_method_63_code 3 = .ok (.bipush 6, 2) := dd188_0.2.2.2.1
theorem d188_5 : decode prog_14_method_63_code 5 = .ok (.if_icmp .ge 60, 3) := dd188_0.2.2.2.2.1
theorem d188_8 : decode prog_14_method_63_code 8 = .ok (.aload_n 0, 1) := dd188_0.2.2.2.2.2.1
theorem d188_9 : decode prog_14_method_63_code 9 = .ok (.getfield 114, 3) := dd188_0.2.2.2.2.2.2.1
theorem d188_12 : decode prog_14_method_63_code 12 = .ok (.bipush 6, 2) := dd188_0.2.2.2.2.2.2.2.1
theorem d188_14 : decode prog_14_method_63_code 14 = .ok (.iload_n 1, 1) := dd188_0.2.2.2.2.2.2.2.2.1
theorem d188_15 : decode prog_14_method_63_code 15 = .ok (.imul, 1) := dd188_0.2.2.2.2.2.2.2.2.2.1
theorem d188_16 : decode prog_14_method_63_code 16 = .ok (.iload_n 2, 1) := dd188_0.2.2.2.2.2.2.2.2.2.2.1
theorem d188_17 : decode prog_14_method_63_code 17 = .ok (.iadd, 1) := dd188_0.2.2.2.2.2.2.2.2.2.2.2.1
theorem d188_18 : decode prog_14_method_63_code 18 = .ok (.aload_n 0, 1) := dd188_0.2.2.2.2.2.2.2.2.2.2.2.2.1
theorem d188_19 : decode prog_14_method_63_code 19 = .ok (.getfield 33, 3) := dd188_0.2.2.2.2.2.2.2.2.2.2.2.2.2.1
theorem d188_22 : decode prog_14_method_63_code 22 = .ok (.iload_n 2, 1) := dd188_0.2.2.2.2.2.2.2.2.2.2.2.2.2.2.1
theorem d188_23 : decode prog_14_method_63_code 23 = .ok (.iaload, 1) := dd188_0.2.2.2.2.2.2.2.2.2.2.2.2.2.2.2
theorem dd188_24 : (decode prog_14_method_63_code 24 = .ok (.iastore, 1)) ∧ (decode prog_14_method_63_code 25 = .ok (.aload_n 0, 1)) ∧ (decode prog_14_method_63_code 26 = .ok (.getfield 117, 3)) ∧ (decode prog_14_method_63_code 29 = .ok (.bipush 6, 2)) ∧ (decode prog_14_method_63_code 31 = .ok (.iload_n 1, 1)) ∧ (decode prog_14_method_63_code 32 = .ok (.imul, 1)) ∧ (decode prog_14_method_63_code 33 = .ok (.iload_n 2, 1)) ∧ (decode prog_14_method_63_code 34 = .ok (.iadd, 1)) ∧ (decode prog_14_method_63_code 35 = .ok (.aload_n 0, 1)) ∧ (decode prog_14_method_63_code 36 = .ok (.getfield 24, 3)) ∧ (decode prog_14_method_63_code 39 = .ok (.iload_n 2, 1)) ∧ (decode prog_14_method_63_code 40 = .ok (.iaload, 1)) ∧ (decode prog_14_method_63_code 41 = .ok (.iastore, 1)) ∧ (decode prog_14_method_63_code 42 = .ok (.aload_n 0, 1)) ∧ (decode prog_14_method_63_code 43 = .ok (.getfield 120, 3)) ∧ (decode prog_14_method_63_code 46 = .ok (.bipush 6, 2)) := by decide +kernel
theorem d188_24 : decode prog_14_method_63_code 24 = .ok (.iastore, 1) := dd188_24.1
theorem d188_25 : decode prog_14_method_63_code 25 = .ok (.aload_n 0, 1) := dd188_24.2.1
theorem d188_26 : decode prog_14_method_63_code 26 = .ok (.getfield 117, 3) := dd188_24.2.2.1
theorem d188_29 : decode prog_14_method_63_code 29 = .ok (.bipush 6, 2) := dd188_24.2.2.2.1
theorem d188_31 : decode prog_14_method_63_code 31 = .ok (.iload_n 1, 1) := dd188_24.2.2.2.2.1
theorem d188_32 : decode prog_14_method_63_code 32 = .ok (.imul, 1) := dd188_24.2.2.2.2.2.1
theorem d188_33 : decode prog_14_method_63_code 33 = .ok (.iload_n 2, 1) := dd188_24.2.2.2.2.2.2.1
theorem d188_34 : decode prog_14_method_63_code 34 = .ok (.iadd, 1) := dd188_24.2.2.2.2.2.2.2.1
theorem d188_35 : decode prog_14_method_63_code 35 = .ok (.aload_n 0, 1) := dd188_24.2.2.2.2.2.2.2.2.1
theorem d188_36 : decode prog_14_method_63_code 36 = .ok (.getfield 24, 3) := dd188_24.2.2.2.2.2.2.2.2.2.1
theorem d188_39 : decode prog_14_method_63_code 39 = .ok (.iload_n 2, 1) := dd188_24.2.2.2.2.2.2.2.2.2.2.1
theorem d188_40 : decode prog_14_method_63_code 40 = .ok (.iaload, 1) := dd188_24.2.2.2.2.2.2.2.2.2.2.2.1
theorem d188_41 : decode prog_14_method_63_code 41 = .ok (.iastore, 1) := dd188_24.2.2.2.2.2.2.2.2.2.2.2.2.1
theorem d188_42 : decode prog_14_method_63_code 42 = .ok (.aload_n 0, 1) := dd188_24.2.2.2.2.2.2.2.2.2.2.2.2.2.1
theorem d188_43 : decode prog_14_method_63_code 43 = .ok (.getfield 120, 3) := dd188_24.2.2.2.2.2.2.2.2.2.2.2.2.2.2.1
theorem d188_46 : decode prog_14_method_63_code 46 = .ok (.bipush 6, 2) := dd188_24.2.2.2.2.2.2.2.2.2.2.2.2.2.2.2
theorem dd188_48 : (decode prog_14_method_63_code 48 = .ok (.iload_n 1, 1)) ∧ (decode prog_14_method_63_code 49 = .ok (.imul, 1)) ∧ (decode prog_14_method_63_code 50 = .ok (.iload_n 2, 1)) ∧ (decode prog_14_method_63_code 51 = .ok (.iadd, 1)) ∧ (decode prog_14_method_63_code 52 = .ok (.aload_n 0, 1)) ∧ (decode prog_14_method_63_code 53 = .ok (.getfield 27, 3)) ∧ (decode prog_14_method_63_code 56 = .ok (.iload_n 2, 1)) ∧ (decode prog_14_method_63_code 57 = .ok (.iaload, 1)) ∧ (decode prog_14_method_63_code 58 = .ok (.iastore, 1)) ∧ (decode prog_14_method_63_code 59 = .ok (.iinc 2 1, 3)) ∧ (decode prog_14_method_63_code 62 = .ok (.goto (-60), 3)) ∧ (decode prog_14_method_63_code 65 = .ok (.aload_n 0, 1)) ∧ (decode prog_14_method_63_code 66 = .ok (.getfield 123, 3)) ∧ (decode prog_14_method_63_code 69 = .ok (.iconst 5, 1)) ∧ (decode prog_14_method_63_code 70 = .ok (.iload_n 1, 1)) ∧ (decode prog_14_method_63_code 71 = .ok (.imul, 1)) := by decide +kernel
theorem d188_48 : decode prog_14_method_63_code 48 = .ok (.iload_n 1, 1) := dd188_48.1
theorem d188_49 : decode prog_14_method_63_code 49 = .ok (.imul, 1) := dd188_48.2.1
theorem d188_50 : decode prog_14_method_63_code 50 = .ok (.iload_n 2, 1) := dd188_48.2.2.1
theorem d188_51 : decode prog_14_method_63_code 51 = .ok (.iadd, 1) := dd188_48.2.2.2.1
theorem d188_52 : decode prog_14_method_63_code 52 = .ok (.aload_n 0, 1) := dd188_48.2.2.2.2.1
theorem d188_53 : decode prog_14_method_63_code 53 = .ok (.getfield 27, 3) := dd188_48.2.2.2.2.2.1
theorem d188_56 : decode prog_14_method_63_code 56 = .ok (.iload_n 2, 1) := dd188_48.2.2.2.2.2.2.1
theorem d188_57 : decode prog_14_method_63_code 57 = .ok (.iaload, 1) := dd188_48.2.2.2.2.2.2.2.1
theorem d188_58 : decode prog_14_method_63_code 58 = .ok (.iastore, 1) := dd188_48.2.2.2.2.2.2.2.2.1
theorem d188_59 : decode prog_14_method_63_code 59 = .ok (.iinc 2 1, 3) := dd188_48.2.2.2.2.2.2.2.2.2.1
theorem d188_62 : decode prog_14_method_63_code 62 = .ok (.goto (-60), 3) := dd188_48.2.2.2.2.2.2.2.2.2.2.1
theorem d188_65 : decode prog_14_method_63_code 65 = .ok (.aload_n 0, 1) := dd188_48.2.2.2.2.2.2.2.2.2.2.2.1
theorem d188_66 : decode prog_14_method_63_code 66 = .ok (.getfield 123, 3) := dd188_48.2.2.2.2.2.2.2.2.2.2.2.2.1
theorem d188_69 : decode prog_14_method_63_code 69 = .ok (.iconst 5, 1) := dd188_48.2.2.2.2.2.2.2.2.2.2.2.2.2.1
theorem d188_70 : decode prog_14_method_63_code 70 = .ok (.iload_n 1, 1) := dd188_48.2.2.2.2.2.2.2.2.2.2.2.2.2.2.1
theorem d188_71 : decode prog_14_method_63_code 71 = .ok (.imul, 1) := dd188_48.2.2.2.2.2.2.2.2.2.2.2.2.2.2.2
theorem dd188_72 : (decode prog_14_method_63_code 72 = .ok (.aload_n 0, 1)) ∧ (decode prog_14_method_63_code 73 = .ok (.getfield 166, 3)) ∧ (decode prog_14_method_63_code 76 = .ok (.iastore, 1)) ∧ (decode prog_14_method_63_code 77 = .ok (.aload_n 0, 1)) ∧ (decode prog_14_method_63_code 78 = .ok (.getfield 123, 3)) ∧ (decode prog_14_method_63_code 81 = .ok (.iconst 5, 1)) ∧ (decode prog_14_method_63_code 82 = .ok (.iload_n 1, 1)) ∧ (decode prog_14_method_63_code 83 = .ok (.imul, 1)) ∧ (decode prog_14_method_63_code 84 = .ok (.iconst 1, 1)) ∧ (decode prog_14_method_63_code 85 = .ok (.iadd, 1)) ∧ (decode prog_14_method_63_code 86 = .ok (.aload_n 0, 1)) ∧ (decode prog_14_method_63_code 87 = .ok (.getfield 36, 3)) ∧ (decode prog_14_method_63_code 90 = .ok (.iastore, 1)) ∧ (decode prog_14_method_63_code 91 = .ok (.aload_n 0, 1)) ∧ (decode prog_14_method_63_code 92 = .ok (.getfield 123, 3)) ∧ (decode prog_14_method_63_code 95 = .ok (.iconst 5, 1)) := by decide +kernel
theorem d188_72 : decode prog_14_method_63_code 72 = .ok (.aload_n 0, 1) := dd188_72.1
theorem d188_73 : decode prog_14_method_63_code 73 = .ok (.getfield 166, 3) := dd188_72.2.1
theorem d188_76 : decode prog_14_method_63_code 76 = .ok (.iastore, 1) := dd188_72.2.2.1
theorem d188_77 : decode prog_14_method_63_code 77 = .ok (.aload_n 0, 1) := dd188_72.2.2.2.1
theorem d188_78 : decode prog_14_method_63_code 78 = .ok (.getfield 123, 3) := dd188_72.2.2.2.2.1
theorem d188_81 : decode prog_14_method_63_code 81 = .ok (.iconst 5, 1) := dd188_72.2.2.2.2.2.1
theorem d188_82 : decode prog_14_method_63_code 82 = .ok (.iload_n 1, 1) := dd188_72.2.2.2.2.2.2.1
theorem d188_83 : decode prog_14_method_63_code 83 = .ok (.imul, 1) := dd188_72.2.2.2.2.2.2.2.1
theorem d188_84 : decode prog_14_method_63_code 84 = .ok (.iconst 1, 1) := dd188_72.2.2.2.2.2.2.2.2.1
theorem d188_85 : decode prog_14_method_63_code 85 = .ok (.iadd, 1) := dd188_72.2.2.2.2.2.2.2.2.2.1
theorem d188_86 : decode prog_14_method_63_code 86 = .ok (.aload_n 0, 1) := dd188_72.2.2.2.2.2.2.2.2.2.2.1
theorem d188_87 : decode prog_14_method_63_code 87 = .ok (.getfield 36, 3) := dd188_72.2.2.2.2.2.2.2.2.2.2.2.1
theorem d188_90 : decode prog_14_method_63_code 90 = .ok (.iastore, 1) := dd188_72.2.2.2.2.2.2.2.2.2.2.2.2.1
theorem d188_91 : decode prog_14_method_63_code 91 = .ok (.aload_n 0, 1) := dd188_72.2.2.2.2.2.2.2.2.2.2.2.2.2.1
theorem d188_92 : decode prog_14_method_63_code 92 = .ok (.getfield 123, 3) := dd188_72.2.2.2.2.2.2.2.2.2.2.2.2.2.2.1
theorem d188_95 : decode prog_14_method_63_code 95 = .ok (.iconst 5, 1) := dd188_72.2.2.2.2.2.2.2.2.2.2.2.2.2.2.2
theorem dd188_96 : (decode prog_14_method_63_code 96 = .ok (.iload_n 1, 1)) ∧ (decode prog_14_method_63_code 97 = .ok (.imul, 1)) ∧ (decode prog_14_method_63_code 98 = .ok (.iconst 2, 1)) ∧ (decode prog_14_method_63_code 99 = .ok (.iadd, 1)) ∧ (decode prog_14_method_63_code 100 = .ok (.aload_n 0, 1)) ∧ (decode prog_14_method_63_code 101 = .ok (.getfield 40, 3)) ∧ (decode prog_14_method_63_code 104 = .ok (.iastore, 1)) ∧ (decode prog_14_method_63_code 105 = .ok (.aload_n 0, 1)) ∧ (decode prog_14_method_63_code 106 = .ok (.getfield 123, 3)) ∧ (decode prog_14_method_63_code 109 = .ok (.iconst 5, 1)) ∧ (decode prog_14_method_63_code 110 = .ok (.iload_n 1, 1)) ∧ (decode prog_14_method_63_code 111 = .ok (.imul, 1)) ∧ (decode prog_14_method_63_code 112 = .ok (.iconst 3, 1)) ∧ (decode prog_14_method_63_code 113 = .ok (.iadd, 1)) ∧ (decode prog_14_method_63_code 114 = .ok (.aload_n 0, 1)) ∧ (decode prog_14_method_63_code 115 = .ok (.getfield 257, 3)) := by decide +kernel
theorem d188_96 : decode prog_14_method_63_code 96 = .ok (.iload_n 1, 1) := dd188_96.1
theorem d188_97 : decode prog_14_method_63_code 97 = .ok (.imul, 1) := dd188_96.2.1
theorem d188_98 : decode prog_14_method_63_code 98 = .ok (.iconst 2, 1) := dd188_96.2.2.1
theorem d188_99 : decode prog_14_method_63_code 99 = .ok (.iadd, 1) := dd188_96.2.2.2.1
theorem d188_100 : decode prog_14_method_63_code 100 = .ok (.aload_n 0, 1) := dd188_96.2.2.2.2.1
theorem d188_101 : decode prog_14_method_63_code 101 = .ok (.getfield 40, 3) := dd188_96.2.2.2.2.2.1
theorem d188_104 : decode prog_14_method_63_code 104 = .ok (.iastore, 1) := dd188_96.2.2.2.2.2.2.1
theorem d188_105 : decode prog_14_method_63_code 105 = .ok (.aload_n 0, 1) := dd188_96.2.2.2.2.2.2.2.1
theorem d188_106 : decode prog_14_method_63_code 106 = .ok (.getfield 123, 3) := dd188_96.2.2.2.2.2.2.2.2.1
theorem d188_109 : decode prog_14_method_63_code 109 = .ok (.iconst 5, 1) := dd188_96.2.2.2.2.2.2.2.2.2.1
theorem d188_110 : decode prog_14_method_63_code 110 = .ok (.iload_n 1, 1) := dd188_96.2.2.2.2.2.2.2.2.2.2.1
theorem d188_111 : decode prog_14_method_63_code 111 = .ok (.imul, 1) := dd188_96.2.2.2.2.2.2.2.2.2.2.2.1
theorem d188_112 : decode prog_14_method_63_code 112 = .ok (.iconst 3, 1) := dd188_96.2.2.2.2.2.2.2.2.2.2.2.2.1
theorem d188_113 : decode prog_14_method_63_code 113 = .ok (.iadd, 1) := dd188_96.2.2.2.2.2.2.2.2.2.2.2.2.2.1
theorem d188_114 : decode prog_14_method_63_code 114 = .ok (.aload_n 0, 1) := dd188_96.2.2.2.2.2.2.2.2.2.2.2.2.2.2.1
theorem d188_115 : decode prog_14_method_63_code 115 = .ok (.getfield 257, 3) := dd188_96.2.2.2.2.2.2.2.2.2.2.2.2.2.2.2
theorem dd188_118 : (decode prog_14_method_63_code 118 = .ok (.iastore, 1)) ∧ (decode prog_14_method_63_code 119 = .ok (.aload_n 0, 1)) ∧ (decode prog_14_method_63_code 120 = .ok (.getfield 123, 3)) ∧ (decode prog_14_method_63_code 123 = .ok (.iconst 5, 1)) ∧ (decode prog_14_method_63_code 124 = .ok (.iload_n 1, 1)) ∧ (decode prog_14_method_63_code 125 = .ok (.imul, 1)) ∧ (decode prog_14_method_63_code 126 = .ok (.iconst 4, 1)) ∧ (decode prog_14_method_63_code 127 = .ok (.iadd, 1)) ∧ (decode prog_14_method_63_code 128 = .ok (.aload_n 0, 1)) ∧ (decode prog_14_method_63_code 129 = .ok (.getfield 260, 3)) ∧ (decode prog_14_method_63_code 132 = .ok (.iastore, 1)) ∧ (decode prog_14_method_63_code 133 = .ok (.return_, 1)) := by decide +kernel
theorem d188_118 : decode prog_14_method_63_code 118 = .ok (.iastore, 1) := dd188_118.1
theorem d188_119 : decode prog_14_method_63_code 119 = .ok (.aload_n 0, 1) := dd188_118.2.1
theorem d188_120 : decode prog_14_method_63_code 120 = .ok (.getfield 123, 3) := dd188_118.2.2.1
theorem d188_123 : decode prog_14_method_63_code 123 = .ok (.iconst 5, 1) := dd188_118.2.2.2.1
theorem d188_124 : decode prog_14_method_63_code 124 = .ok (.iload_n 1, 1) := dd188_118.2.2.2.2.1
theorem d188_125 : decode prog_14_method_63_code 125 = .ok (.imul, 1) := dd188_118.2.2.2.2.2.1
theorem d188_126 : decode prog_14_method_63_code 126 = .ok (.iconst 4, 1) := dd188_118.2.2.2.2.2.2.1
theorem d188_127 : decode prog_14_method_63_code 127 = .ok (.iadd, 1) := dd188_118.2.2.2.2.2.2.2.1
theorem d188_128 : decode prog_14_method_63_code 128 = .ok (.aload_n 0, 1) := dd188_118.2.2.2.2.2.2.2.2.1
theorem d188_129 : decode prog_14_method_63_code 129 = .ok (.getfield 260, 3) := dd188_118.2.2.2.2.2.2.2.2.2.1
theorem d188_132 : decode prog_14_method_63_code 132 = .ok (.iastore, 1) := dd188_118.2.2.2.2.2.2.2.2.2.2.1
theorem d188_133 : decode prog_14_method_63_code 133 = .ok (.return_, 1) := dd188_118.2.2.2.2.2.2.2.2.2.2.2
theorem b188_0 {d : Nat} {S : mm_S} {a0 : Nat} {x1 : Int32} : mm_ex d 188 0 [.ref a0, .int x1, .null] [] S =
    mm_ex d 188 2 [.ref a0, .int x1, .int (nI 0)] [] S :=
  Eq.trans (mx_iconst t188 d188_0 (v := nI 0) rfl) <|
  (mx_istore_n t188 d188_1 (ls' := [.ref a0, .int x1, .int (nI 0)]) rfl rfl)
theorem b188_2 {d : Nat} {S : mm_S} {a0 : Nat} {x1 : Int32} {x2 : Int32} : mm_ex d 188 2 [.ref a0, .int x1, .int x2] [] S =
    if (nI 6) ≤ x2 then mm_ex d 188 65 [.ref a0, .int x1, .int x2] [] S else mm_ex d 188 8 [.ref a0, .int x1, .int x2] [] S :=
  Eq.trans (mx_iload_n t188 d188_2 (x := x2) rfl) <|
  Eq.trans (mx_bipush t188 d188_3 (v := nI 6) rfl) <|
  (mx_cge t188 d188_5 (tgt := 65) (by decide))
theorem b188_8 {d : Nat} {S : mm_S} {a0 : Nat} {x1 : Int32} {x2 : Int32} (h0 : mm_obj S a0 12 = true) (h1 : (mm_R S a0 55).isSome = true) (h2 : (mm_R S a0 9).isSome = true) (h3 : mm_inb x2 (mm_N S (mm_rg S a0 9)) = true) (h4 : mm_arr S (mm_rg S a0 9) 13 = true) (h5 : mm_arr S (mm_rg S a0 55) 13 = true) (h6 : mm_inb (((nI 6) * x1) + x2) (mm_N S (mm_rg S a0 55)) = true) (h7 : (mm_R S a0 56).isSome = true) (h8 : (mm_R S a0 5).isSome = true) : mm_ex d 188 8 [.ref a0, .int x1, .int x2] [] S =
    mm_ex d 188 40 [.ref a0, .int x1, .int x2] [.int x2, .ref (mm_rg S a0 5), .int (((nI 6) * x1) + x2), .ref (mm_rg S a0 56)] (mm_uM S (mm_rg S a0 55) (((nI 6) * x1) + x2).toNatClampNeg (mm_M S (mm_rg S a0 9) (x2).toNatClampNeg)) :=
  Eq.trans (mx_aload_n t188 d188_8 (x := a0) rfl) <|
  Eq.trans (mx_getR t188 d188_9 rfl fl12_114 h0 h1) <|
  Eq.trans (mx_bipush t188 d188_12 (v := nI 6) rfl) <|
  Eq.trans (mx_iload_n t188 d188_14 (x := x1) rfl) <|
  Eq.trans (mx_imul t188 d188_15) <|
  Eq.trans (mx_iload_n t188 d188_16 (x := x2) rfl) <|
  Eq.trans (mx_iadd t188 d188_17) <|
  Eq.trans (mx_aload_n t188 d188_18 (x := a0) rfl) <|
  Eq.trans (mx_getR t188 d188_19 rfl fl12_33 h0 h2) <|
  Eq.trans (mx_iload_n t188 d188_22 (x := x2) rfl) <|
  Eq.trans (mx_iald t188 d188_23 h4 h3) <|
  Eq.trans (mx_iast2 t188 d188_24 h5 h6) <|
  Eq.trans (mx_aload_n t188 d188_25 (x := a0) rfl) <|
  Eq.trans (mx_getR t188 d188_26 rfl fl12_117 h0 h7) <|
  Eq.trans (mx_bipush t188 d188_29 (v := nI 6) rfl) <|
  Eq.trans (mx_iload_n t188 d188_31 (x := x1) rfl) <|
  Eq.trans (mx_imul t188 d188_32) <|
  Eq.trans (mx_iload_n t188 d188_33 (x := x2) rfl) <|
  Eq.trans (mx_iadd t188 d188_34) <|
  Eq.trans (mx_aload_n t188 d188_35 (x := a0) rfl) <|
  Eq.trans (mx_getR t188 d188_36 rfl fl12_24 h0 h8) <|
  (mx_iload_n t188 d188_39 (x := x2) rfl)
theorem b188_40 {d : Nat} {S : mm_S} {a0 : Nat} {x1 : Int32} {x2 : Int32} {p0 : Int32} {p1 : Nat} {p2 : Int32} {p3 : Nat} (h0 : mm_inb p0 (mm_N S p1) = true) (h1 : mm_arr S p1 13 = true) (h2 : mm_arr S p3 13 = true) (h3 : mm_inb p2 (mm_N S p3) = true) (h4 : mm_obj S a0 12 = true) (h5 : (mm_R S a0 57).isSome = true) (h6 : (mm_R S a0 6).isSome = true) : mm_ex d 188 40 [.ref a0, .int x1, .int x2] [.int p0, .ref p1, .int p2, .ref p3] S =
    mm_ex d 188 57 [.ref a0, .int x1, .int x2] [.int x2, .ref (mm_rg S a0 6), .int (((nI 6) * x1) + x2), .ref (mm_rg S a0 57)] (mm_uM S p3 (p2).toNatClampNeg (mm_M S p1 (p0).toNatClampNeg)) :=
  Eq.trans (mx_iald t188 d188_40 h1 h0) <|
  Eq.trans (mx_iast2 t188 d188_41 h2 h3) <|
  Eq.trans (mx_aload_n t188 d188_42 (x := a0) rfl) <|
  Eq.trans (mx_getR t188 d188_43 rfl fl12_120 h4 h5) <|
  Eq.trans (mx_bipush t188 d188_46 (v := nI 6) rfl) <|
  Eq.trans (mx_iload_n t188 d188_48 (x := x1) rfl) <|
  Eq.trans (mx_imul t188 d188_49) <|
  Eq.trans (mx_iload_n t188 d188_50 (x := x2) rfl) <|
  Eq.trans (mx_iadd t188 d188_51) <|
  Eq.trans (mx_aload_n t188 d188_52 (x := a0) rfl) <|
  Eq.trans (mx_getR t188 d188_53 rfl fl12_27 h4 h6) <|
  (mx_iload_n t188 d188_56 (x := x2) rfl)
theorem b188_57 {d : Nat} {S : mm_S} {a0 : Nat} {x1 : Int32} {x2 : Int32} {p0 : Int32} {p1 : Nat} {p2 : Int32} {p3 : Nat} (h0 : mm_inb p0 (mm_N S p1) = true) (h1 : mm_arr S p1 13 = true) (h2 : mm_arr S p3 13 = true) (h3 : mm_inb p2 (mm_N S p3) = true) : mm_ex d 188 57 [.ref a0, .int x1, .int x2] [.int p0, .ref p1, .int p2, .ref p3] S =
    mm_ex d 188 2 [.ref a0, .int x1, .int (x2 + nI 1)] [] (mm_uM S p3 (p2).toNatClampNeg (mm_M S p1 (p0).toNatClampNeg)) :=
  Eq.trans (mx_iald t188 d188_57 h1 h0) <|
  Eq.trans (mx_iast2 t188 d188_58 h2 h3) <|
  Eq.trans (mx_iinc t188 d188_59 (x := x2) (v := nI 1) (ls' := [.ref a0, .int x1, .int (x2 + nI 1)]) rfl rfl rfl rfl) <|
  (mx_goto t188 d188_62 (tgt := 2) (by decide))
theorem b188_65 {d : Nat} {S : mm_S} {a0 : Nat} {x1 : Int32} {x2 : Int32} (h0 : mm_obj S a0 12 = true) (h1 : (mm_R S a0 58).isSome = true) (h2 : mm_arr S (mm_rg S a0 58) 13 = true) (h3 : mm_inb ((nI 5) * x1) (mm_N S (mm_rg S a0 58)) = true) : mm_ex d 188 65 [.ref a0, .int x1, .int x2] [] S =
    mm_ex d 188 87 [.ref a0, .int x1, .int x2] [.ref a0, .int (((nI 5) * x1) + (nI 1)), .ref (mm_rg S a0 58)] (mm_uM S (mm_rg S a0 58) ((nI 5) * x1).toNatClampNeg (mm_M S a0 8)) :=
  Eq.trans (mx_aload_n t188 d188_65 (x := a0) rfl) <|
  Eq.trans (mx_getR t188 d188_66 rfl fl12_123 h0 h1) <|
  Eq.trans (mx_iconst t188 d188_69 (v := nI 5) rfl) <|
  Eq.trans (mx_iload_n t188 d188_70 (x := x1) rfl) <|
  Eq.trans (mx_imul t188 d188_71) <|
  Eq.trans (mx_aload_n t188 d188_72 (x := a0) rfl) <|
  Eq.trans (mx_geti t188 d188_73 rfl fl12_166 h0) <|
  Eq.trans (mx_iast2 t188 d188_76 h2 h3) <|
  Eq.trans (mx_aload_n t188 d188_77 (x := a0) rfl) <|
  Eq.trans (mx_getR t188 d188_78 rfl fl12_123 h0 h1) <|
  Eq.trans (mx_iconst t188 d188_81 (v := nI 5) rfl) <|
  Eq.trans (mx_iload_n t188 d188_82 (x := x1) rfl) <|
  Eq.trans (mx_imul t188 d188_83) <|
  Eq.trans (mx_iconst t188 d188_84 (v := nI 1) rfl) <|
  Eq.trans (mx_iadd t188 d188_85) <|
  (mx_aload_n t188 d188_86 (x := a0) rfl)
theorem b188_87 {d : Nat} {S : mm_S} {a0 : Nat} {x1 : Int32} {x2 : Int32} {p0 : Nat} {p1 : Int32} {p2 : Nat} (h0 : mm_obj S p0 12 = true) (h1 : mm_arr S p2 13 = true) (h2 : mm_inb p1 (mm_N S p2) = true) (h3 : mm_obj S a0 12 = true) (h4 : (mm_R S a0 58).isSome = true) : mm_ex d 188 87 [.ref a0, .int x1, .int x2] [.ref p0, .int p1, .ref p2] S =
    mm_ex d 188 101 [.ref a0, .int x1, .int x2] [.ref a0, .int (((nI 5) * x1) + (nI 2)), .ref (mm_rg S a0 58)] (mm_uM S p2 (p1).toNatClampNeg (mm_M S p0 10)) :=
  Eq.trans (mx_geti t188 d188_87 rfl fl12_36 h0) <|
  Eq.trans (mx_iast2 t188 d188_90 h1 h2) <|
  Eq.trans (mx_aload_n t188 d188_91 (x := a0) rfl) <|
  Eq.trans (mx_getR t188 d188_92 rfl fl12_123 h3 h4) <|
  Eq.trans (mx_iconst t188 d188_95 (v := nI 5) rfl) <|
  Eq.trans (mx_iload_n t188 d188_96 (x := x1) rfl) <|
  Eq.trans (mx_imul t188 d188_97) <|
  Eq.trans (mx_iconst t188 d188_98 (v := nI 2) rfl) <|
  Eq.trans (mx_iadd t188 d188_99) <|
  (mx_aload_n t188 d188_100 (x := a0) rfl)
theorem b188_101 {d : Nat} {S : mm_S} {a0 : Nat} {x1 : Int32} {x2 : Int32} {p0 : Nat} {p1 : Int32} {p2 : Nat} (h0 : mm_obj S p0 12 = true) (h1 : mm_arr S p2 13 = true) (h2 : mm_inb p1 (mm_N S p2) = true) (h3 : mm_obj S a0 12 = true) (h4 : (mm_R S a0 58).isSome = true) : mm_ex d 188 101 [.ref a0, .int x1, .int x2] [.ref p0, .int p1, .ref p2] S =
    mm_ex d 188 115 [.ref a0, .int x1, .int x2] [.ref a0, .int (((nI 5) * x1) + (nI 3)), .ref (mm_rg S a0 58)] (mm_uM S p2 (p1).toNatClampNeg (mm_M S p0 11)) :=
  Eq.trans (mx_geti t188 d188_101 rfl fl12_40 h0) <|
  Eq.trans (mx_iast2 t188 d188_104 h1 h2) <|
  Eq.trans (mx_aload_n t188 d188_105 (x := a0) rfl) <|
  Eq.trans (mx_getR t188 d188_106 rfl fl12_123 h3 h4) <|
  Eq.trans (mx_iconst t188 d188_109 (v := nI 5) rfl) <|
  Eq.trans (mx_iload_n t188 d188_110 (x := x1) rfl) <|
  Eq.trans (mx_imul t188 d188_111) <|
  Eq.trans (mx_iconst t188 d188_112 (v := nI 3) rfl) <|
  Eq.trans (mx_iadd t188 d188_113) <|
  (mx_aload_n t188 d188_114 (x := a0) rfl)
theorem b188_115 {d : Nat} {S : mm_S} {a0 : Nat} {x1 : Int32} {x2 : Int32} {p0 : Nat} {p1 : Int32} {p2 : Nat} (h0 : mm_obj S p0 12 = true) (h1 : mm_arr S p2 13 = true) (h2 : mm_inb p1 (mm_N S p2) = true) (h3 : mm_obj S a0 12 = true) (h4 : (mm_R S a0 58).isSome = true) : mm_ex d 188 115 [.ref a0, .int x1, .int x2] [.ref p0, .int p1, .ref p2] S =
    mm_ex d 188 129 [.ref a0, .int x1, .int x2] [.ref a0, .int (((nI 5) * x1) + (nI 4)), .ref (mm_rg S a0 58)] (mm_uM S p2 (p1).toNatClampNeg (mm_M S p0 12)) :=
  Eq.trans (mx_geti t188 d188_115 rfl fl12_257 h0) <|
  Eq.trans (mx_iast2 t188 d188_118 h1 h2) <|
  Eq.trans (mx_aload_n t188 d188_119 (x := a0) rfl) <|
  Eq.trans (mx_getR t188 d188_120 rfl fl12_123 h3 h4) <|
  Eq.trans (mx_iconst t188 d188_123 (v := nI 5) rfl) <|
  Eq.trans (mx_iload_n t188 d188_124 (x := x1) rfl) <|
  Eq.trans (mx_imul t188 d188_125) <|
  Eq.trans (mx_iconst t188 d188_126 (v := nI 4) rfl) <|
  Eq.trans (mx_iadd t188 d188_127) <|
  (mx_aload_n t188 d188_128 (x := a0) rfl)
theorem b188_129 {d : Nat} {S : mm_S} {a0 : Nat} {x1 : Int32} {x2 : Int32} {p0 : Nat} {p1 : Int32} {p2 : Nat} (h0 : mm_obj S p0 12 = true) (h1 : mm_arr S p2 13 = true) (h2 : mm_inb p1 (mm_N S p2) = true) : mm_ex d 188 129 [.ref a0, .int x1, .int x2] [.ref p0, .int p1, .ref p2] S =
    some (none, (mm_uM S p2 (p1).toNatClampNeg (mm_M S p0 13))) :=
  Eq.trans (mx_geti t188 d188_129 rfl fl12_260 h0) <|
  Eq.trans (mx_iast2 t188 d188_132 h1 h2) <|
  (mx_vret t188 d188_133 rfl)
theorem e188 {d : Nat} {S : mm_S} {a0 : Nat} {x1 : Int32} : mm_cl d 188 [.ref a0, .int x1] S = mm_ex d 188 0 [.ref a0, .int x1, .null] [] S := mm_cl_eq t188 (Nat.le_of_ble_eq_true rfl) rfl
/-! X12_laysAt -/
theorem dd189_0 : (decode prog_14_method_64_code 0 = .ok (.iconst 0, 1)) ∧ (decode prog_14_method_64_code 1 = .ok (.istore_n 2, 1)) ∧ (decode prog_14_method_64_code 2 = .ok (.iload_n 2, 1)) ∧ (decode prog_14_method_64_code 3 = .ok (.bipush 6, 2)) ∧ (decode prog_14_method_64_code 5 = .ok (.if_icmp .ge 60, 3)) ∧ (decode prog_14_method_64_code 8 = .ok (.aload_n 0, 1)) ∧ (decode prog_14_method_64_code 9 = .ok (.getfield 33, 3)) ∧ (decode prog_14_method_64_code 12 = .ok (.iload_n 2, 1)) ∧ (decode prog_14_method_64_code 13 = .ok (.aload_n 0, 1)) ∧ (decode prog_14_method_64_code 14 = .ok (.getfield 114, 3)) ∧ (decode prog_14_method_64_code 17 = .ok (.bipush 6, 2)) ∧ (decode prog_14_method_64_code 19 = .ok (.iload_n 1, 1)) ∧ (decode prog_14_method_64_code 20 = .ok (.imul, 1)) ∧ (decode prog_14_method_64_code 21 = .ok (.iload_n 2, 1)) ∧ (decode prog_14_method_64_code 22 = .ok (.iadd, 1)) ∧ (decode prog_14_method_64_code 23 = .ok (.iaload, 1)) := by decide +kernel
theorem d189_0 : decode prog_14_method_64_code 0 = .ok (.iconst 0, 1) := dd189_0.1
theorem d189_1 : decode prog_14_method_64_code 1 = .ok (.istore_n 2, 1) := dd189_0.2.1
theorem d189_2 : decode prog_14_method_64_code 2 = .ok (.iload_n 2, 1) := dd189_0.2.2.1
theorem d189_3 : decode prog_14_method_64_code 3 = .ok (.bipush 6, 2) := dd189_0.2.2.2.1
theorem d189_5 : decode prog_14_method_64_code 5 = .ok (.if_icmp .ge 60, 3) := dd189_0.2.2.2.2.1
theorem d189_8 : decode prog_14_method_64_code 8 = .ok (.aload_n 0, 1) := dd189_0.2.2.2.2.2.1
theorem d189_9 : decode prog_14_method_64_code 9 = .ok (.getfield 33, 3) := dd189_0.2.2.2.2.2.2.1
theorem d189_12 : decode prog_14_method_64_code 12 = .ok (.iload_n 2, 1) := dd189_0.2.2.2.2.2.2.2.1
theorem d189_13 : decode prog_14_method_64_code 13 = .ok (.aload_n 0, 1) := dd189_0.2.2.2.2.2.2.2.2.1
theorem d189_14 : decode prog_14_method_64_code 14 = .ok (.getfield 114, 3) := dd189_0.2.2.2.2.2.2.2.2.2.1
theorem d189_17 : decode prog_14_method_64_code 17 = .ok (.bipush 6, 2) := dd189_0.2.2.2.2.2.2.2.2.2.2.1
theorem d189_19 : decode prog_14_method_64_code 19 = .ok (.iload_n 1, 1) := dd189_0.2.2.2.2.2.2.2.2.2.2.2.1
theorem d189_20 : decode prog_14_method_64_code 20 = .ok (.imul, 1) := dd189_0.2.2.2.2.2.2.2.2.2.2.2.2.1
theorem d189_21 : decode prog_14_method_64_code 21 = .ok (.iload_n 2, 1) := dd189_0.2.2.2.2.2.2.2.2.2.2.2.2.2.1
theorem d189_22 : decode prog_14_method_64_code 22 = .ok (.iadd, 1) := dd189_0.2.2.2.2.2.2.2.2.2.2.2.2.2.2.1
theorem d189_23 : decode prog_14_method_64_code 23 = .ok (.iaload, 1) := dd189_0.2.2.2.2.2.2.2.2.2.2.2.2.2.2.2
theorem dd189_24 : (decode prog_14_method_64_code 24 = .ok (.iastore, 1)) ∧ (decode prog_14_method_64_code 25 = .ok (.aload_n 0, 1)) ∧ (decode prog_14_method_64_code 26 = .ok (.getfield 24, 3)) ∧ (decode prog_14_method_64_code 29 = .ok (.iload_n 2, 1)) ∧ (decode prog_14_method_64_code 30 = .ok (.aload_n 0, 1)) ∧ (decode prog_14_method_64_code 31 = .ok (.getfield 117, 3)) ∧ (decode prog_14_method_64_code 34 = .ok (.bipush 6, 2)) ∧ (decode prog_14_method_64_code 36 = .ok (.iload_n 1, 1)) ∧ (decode prog_14_method_64_code 37 = .ok (.imul, 1)) ∧ (decode prog_14_method_64_code 38 = .ok (.iload_n 2, 1)) ∧ (decode prog_14_method_64_code 39 = .ok (.iadd, 1)) ∧ (decode prog_14_method_64_code 40 = .ok (.iaload, 1)) ∧ (decode prog_14_method_64_code 41 = .ok (.iastore, 1)) ∧ (decode prog_14_method_64_code 42 = .ok (.aload_n 0, 1)) ∧ (decode prog_14_method_64_code 43 = .ok (.getfield 27, 3)) ∧ (decode prog_14_method_64_code 46 = .ok (.iload_n 2, 1)) := by decide +kernel
theorem d189_24 : decode prog_14_method_64_code 24 = .ok (.iastore, 1) := dd189_24.1
theorem d189_25 : decode prog_14_method_64_code 25 = .ok (.aload_n 0, 1) := dd189_24.2.1
theorem d189_26 : decode prog_14_method_64_code 26 = .ok (.getfield 24, 3) := dd189_24.2.2.1
theorem d189_29 : decode prog_14_method_64_code 29 = .ok (.iload_n 2, 1) := dd189_24.2.2.2.1
theorem d189_30 : decode prog_14_method_64_code 30 = .ok (.aload_n 0, 1) := dd189_24.2.2.2.2.1
theorem d189_31 : decode prog_14_method_64_code 31 = .ok (.getfield 117, 3) := dd189_24.2.2.2.2.2.1
theorem d189_34 : decode prog_14_method_64_code 34 = .ok (.bipush 6, 2) := dd189_24.2.2.2.2.2.2.1
theorem d189_36 : decode prog_14_method_64_code 36 = .ok (.iload_n 1, 1) := dd189_24.2.2.2.2.2.2.2.1
theorem d189_37 : decode prog_14_method_64_code 37 = .ok (.imul, 1) := dd189_24.2.2.2.2.2.2.2.2.1
theorem d189_38 : decode prog_14_method_64_code 38 = .ok (.iload_n 2, 1) := dd189_24.2.2.2.2.2.2.2.2.2.1
theorem d189_39 : decode prog_14_method_64_code 39 = .ok (.iadd, 1) := dd189_24.2.2.2.2.2.2.2.2.2.2.1
theorem d189_40 : decode prog_14_method_64_code 40 = .ok (.iaload, 1) := dd189_24.2.2.2.2.2.2.2.2.2.2.2.1
theorem d189_41 : decode prog_14_method_64_code 41 = .ok (.iastore, 1) := dd189_24.2.2.2.2.2.2.2.2.2.2.2.2.1
theorem d189_42 : decode prog_14_method_64_code 42 = .ok (.aload_n 0, 1) := dd189_24.2.2.2.2.2.2.2.2.2.2.2.2.2.1
theorem d189_43 : decode prog_14_method_64_code 43 = .ok (.getfield 27, 3) := dd189_24.2.2.2.2.2.2.2.2.2.2.2.2.2.2.1
theorem d189_46 : decode prog_14_method_64_code 46 = .ok (.iload_n 2, 1) := dd189_24.2.2.2.2.2.2.2.2.2.2.2.2.2.2.2
theorem dd189_47 : (decode prog_14_method_64_code 47 = .ok (.aload_n 0, 1)) ∧ (decode prog_14_method_64_code 48 = .ok (.getfield 120, 3)) ∧ (decode prog_14_method_64_code 51 = .ok (.bipush 6, 2)) ∧ (decode prog_14_method_64_code 53 = .ok (.iload_n 1, 1)) ∧ (decode prog_14_method_64_code 54 = .ok (.imul, 1)) ∧ (decode prog_14_method_64_code 55 = .ok (.iload_n 2, 1)) ∧ (decode prog_14_method_64_code 56 = .ok (.iadd, 1)) ∧ (decode prog_14_method_64_code 57 = .ok (.iaload, 1)) ∧ (decode prog_14_method_64_code 58 = .ok (.iastore, 1)) ∧ (decode prog_14_method_64_code 59 = .ok (.iinc 2 1, 3)) ∧ (decode prog_14_method_64_code 62 = .ok (.goto (-60), 3)) ∧ (decode prog_14_method_64_code 65 = .ok (.aload_n 0, 1)) ∧ (decode prog_14_method_64_code 66 = .ok (.aload_n 0, 1)) ∧ (decode prog_14_method_64_code 67 = .ok (.getfield 123, 3)) ∧ (decode prog_14_method_64_code 70 = .ok (.iconst 5, 1)) ∧ (decode prog_14_method_64_code 71 = .ok (.iload_n 1, 1)) := by decide +kernel
theorem d189_47 : decode prog_14_method_64_code 47 = .ok (.aload_n 0, 1) := dd189_47.1
theorem d189_48 : decode prog_14_method_64_code 48 = .ok (.getfield 120, 3) := dd189_47.2.1
theorem d189_51 : decode prog_14_method_64_code 51 = .ok (.bipush 6, 2) := dd189_47.2.2.1
theorem d189_53 : decode prog_14_method_64_code 53 = .ok (.iload_n 1, 1) := dd189_47.2.2.2.1
theorem d189_54 : decode prog_14_method_64_code 54 = .ok (.imul, 1) := dd189_47.2.2.2.2.1
theorem d189_55 : decode prog_14_method_64_code 55 = .ok (.iload_n 2, 1) := dd189_47.2.2.2.2.2.1
theorem d189_56 : decode prog_14_method_64_code 56 = .ok (.iadd, 1) := dd189_47.2.2.2.2.2.2.1
theorem d189_57 : decode prog_14_method_64_code 57 = .ok (.iaload, 1) := dd189_47.2.2.2.2.2.2.2.1
theorem d189_58 : decode prog_14_method_64_code 58 = .ok (.iastore, 1) := dd189_47.2.2.2.2.2.2.2.2.1
theorem d189_59 : decode prog_14_method_64_code 59 = .ok (.iinc 2 1, 3) := dd189_47.2.2.2.2.2.2.2.2.2.1
theorem d189_62 : decode prog_14_method_64_code 62 = .ok (.goto (-60), 3) := dd189_47.2.2.2.2.2.2.2.2.2.2.1
theorem d189_65 : decode prog_14_method_64_code 65 = .ok (.aload_n 0, 1) := dd189_47.2.2.2.2.2.2.2.2.2.2.2.1
theorem d189_66 : decode prog_14_method_64_code 66 = .ok (.aload_n 0, 1) := dd189_47.2.2.2.2.2.2.2.2.2.2.2.2.1
theorem d189_67 : decode prog_14_method_64_code 67 = .ok (.getfield 123, 3) := dd189_47.2.2.2.2.2.2.2.2.2.2.2.2.2.1
theorem d189_70 : decode prog_14_method_64_code 70 = .ok (.iconst 5, 1) := dd189_47.2.2.2.2.2.2.2.2.2.2.2.2.2.2.1
theorem d189_71 : decode prog_14_method_64_code 71 = .ok (.iload_n 1, 1) := dd189_47.2.2.2.2.2.2.2.2.2.2.2.2.2.2.2
theorem dd189_72 : (decode prog_14_method_64_code 72 = .ok (.imul, 1)) ∧ (decode prog_14_method_64_code 73 = .ok (.iaload, 1)) ∧ (decode prog_14_method_64_code 74 = .ok (.putfield 166, 3)) ∧ (decode prog_14_method_64_code 77 = .ok (.aload_n 0, 1)) ∧ (decode prog_14_method_64_code 78 = .ok (.aload_n 0, 1)) ∧ (decode prog_14_method_64_code 79 = .ok (.getfield 123, 3)) ∧ (decode prog_14_method_64_code 82 = .ok (.iconst 5, 1)) ∧ (decode prog_14_method_64_code 83 = .ok (.iload_n 1, 1)) ∧ (decode prog_14_method_64_code 84 = .ok (.imul, 1)) ∧ (decode prog_14_method_64_code 85 = .ok (.iconst 1, 1)) ∧ (decode prog_14_method_64_code 86 = .ok (.iadd, 1)) ∧ (decode prog_14_method_64_code 87 = .ok (.iaload, 1)) ∧ (decode prog_14_method_64_code 88 = .ok (.putfield 36, 3)) ∧ (decode prog_14_method_64_code 91 = .ok (.aload_n 0, 1)) ∧ (decode prog_14_method_64_code 92 = .ok (.aload_n 0, 1)) ∧ (decode prog_14_method_64_code 93 = .ok (.getfield 123, 3)) := by decide +kernel
theorem d189_72 : decode prog_14_method_64_code 72 = .ok (.imul, 1) := dd189_72.1
theorem d189_73 : decode prog_14_method_64_code 73 = .ok (.iaload, 1) := dd189_72.2.1
theorem d189_74 : decode prog_14_method_64_code 74 = .ok (.putfield 166, 3) := dd189_72.2.2.1
theorem d189_77 : decode prog_14_method_64_code 77 = .ok (.aload_n 0, 1) := dd189_72.2.2.2.1
theorem d189_78 : decode prog_14_method_64_code 78 = .ok (.aload_n 0, 1) := dd189_72.2.2.2.2.1
theorem d189_79 : decode prog_14_method_64_code 79 = .ok (.getfield 123, 3) := dd189_72.2.2.2.2.2.1
theorem d189_82 : decode prog_14_method_64_code 82 = .ok (.iconst 5, 1) := dd189_72.2.2.2.2.2.2.1
theorem d189_83 : decode prog_14_method_64_code 83 = .ok (.iload_n 1, 1) := dd189_72.2.2.2.2.2.2.2.1
theorem d189_84 : decode prog_14_method_64_code 84 = .ok (.imul, 1) := dd189_72.2.2.2.2.2.2.2.2.1
theorem d189_85 : decode prog_14_method_64_code 85 = .ok (.iconst 1, 1) := dd189_72.2.2.2.2.2.2.2.2.2.1
theorem d189_86 : decode prog_14_method_64_code 86 = .ok (.iadd, 1) := dd189_72.2.2.2.2.2.2.2.2.2.2.1
theorem d189_87 : decode prog_14_method_64_code 87 = .ok (.iaload, 1) := dd189_72.2.2.2.2.2.2.2.2.2.2.2.1
theorem d189_88 : decode prog_14_method_64_code 88 = .ok (.putfield 36, 3) := dd189_72.2.2.2.2.2.2.2.2.2.2.2.2.1
theorem d189_91 : decode prog_14_method_64_code 91 = .ok (.aload_n 0, 1) := dd189_72.2.2.2.2.2.2.2.2.2.2.2.2.2.1
theorem d189_92 : decode prog_14_method_64_code 92 = .ok (.aload_n 0, 1) := dd189_72.2.2.2.2.2.2.2.2.2.2.2.2.2.2.1
theorem d189_93 : decode prog_14_method_64_code 93 = .ok (.getfield 123, 3) := dd189_72.2.2.2.2.2.2.2.2.2.2.2.2.2.2.2
theorem dd189_96 : (decode prog_14_method_64_code 96 = .ok (.iconst 5, 1)) ∧ (decode prog_14_method_64_code 97 = .ok (.iload_n 1, 1)) ∧ (decode prog_14_method_64_code 98 = .ok (.imul, 1)) ∧ (decode prog_14_method_64_code 99 = .ok (.iconst 2, 1)) ∧ (decode prog_14_method_64_code 100 = .ok (.iadd, 1)) ∧ (decode prog_14_method_64_code 101 = .ok (.iaload, 1)) ∧ (decode prog_14_method_64_code 102 = .ok (.putfield 40, 3)) ∧ (decode prog_14_method_64_code 105 = .ok (.aload_n 0, 1)) ∧ (decode prog_14_method_64_code 106 = .ok (.aload_n 0, 1)) ∧ (decode prog_14_method_64_code 107 = .ok (.getfield 123, 3)) ∧ (decode prog_14_method_64_code 110 = .ok (.iconst 5, 1)) ∧ (decode prog_14_method_64_code 111 = .ok (.iload_n 1, 1)) ∧ (decode prog_14_method_64_code 112 = .ok (.imul, 1)) ∧ (decode prog_14_method_64_code 113 = .ok (.iconst 3, 1)) ∧ (decode prog_14_method_64_code 114 = .ok (.iadd, 1)) ∧ (decode prog_14_method_64_code 115 = .ok (.iaload, 1)) := by decide +kernel
theorem d189_96 : decode prog_14_method_64_code 96 = .ok (.iconst 5, 1) := dd189_96.1
theorem d189_97 : decode prog_14_method_64_code 97 = .ok (.iload_n 1, 1) := dd189_96.2.1
theorem d189_98 : decode prog_14_method_64_code 98 = .ok (.imul, 1) := dd189_96.2.2.1
theorem d189_99 : decode prog_14_method_64_code 99 = .ok (.iconst 2, 1) := dd189_96.2.2.2.1
theorem d189_100 : decode prog_14_method_64_code 100 = .ok (.iadd, 1) := dd189_96.2.2.2.2.1
theorem d189_101 : decode prog_14_method_64_code 101 = .ok (.iaload, 1) := dd189_96.2.2.2.2.2.1
theorem d189_102 : decode prog_14_method_64_code 102 = .ok (.putfield 40, 3) := dd189_96.2.2.2.2.2.2.1
theorem d189_105 : decode prog_14_method_64_code 105 = .ok (.aload_n 0, 1) := dd189_96.2.2.2.2.2.2.2.1
theorem d189_106 : decode prog_14_method_64_code 106 = .ok (.aload_n 0, 1) := dd189_96.2.2.2.2.2.2.2.2.1
theorem d189_107 : decode prog_14_method_64_code 107 = .ok (.getfield 123, 3) := dd189_96.2.2.2.2.2.2.2.2.2.1
theorem d189_110 : decode prog_14_method_64_code 110 = .ok (.iconst 5, 1) := dd189_96.2.2.2.2.2.2.2.2.2.2.1
theorem d189_111 : decode prog_14_method_64_code 111 = .ok (.iload_n 1, 1) := dd189_96.2.2.2.2.2.2.2.2.2.2.2.1
theorem d189_112 : decode prog_14_method_64_code 112 = .ok (.imul, 1) := dd189_96.2.2.2.2.2.2.2.2.2.2.2.2.1
theorem d189_113 : decode prog_14_method_64_code 113 = .ok (.iconst 3, 1) := dd189_96.2.2.2.2.2.2.2.2.2.2.2.2.2.1
theorem d189_114 : decode prog_14_method_64_code 114 = .ok (.iadd, 1) := dd189_96.2.2.2.2.2.2.2.2.2.2.2.2.2.2.1
theorem d189_115 : decode prog_14_method_64_code 115 = .ok (.iaload, 1) := dd189_96.2.2.2.2.2.2.2.2.2.2.2.2.2.2.2
theorem dd189_116 : (decode prog_14_method_64_code 116 = .ok (.putfield 257, 3)) ∧ (decode prog_14_method_64_code 119 = .ok (.aload_n 0, 1)) ∧ (decode prog_14_method_64_code 120 = .ok (.aload_n 0, 1)) ∧ (decode prog_14_method_64_code 121 = .ok (.getfield 123, 3)) ∧ (decode prog_14_method_64_code 124 = .ok (.iconst 5, 1)) ∧ (decode prog_14_method_64_code 125 = .ok (.iload_n 1, 1)) ∧ (decode prog_14_method_64_code 126 = .ok (.imul, 1)) ∧ (decode prog_14_method_64_code 127 = .ok (.iconst 4, 1)) ∧ (decode prog_14_method_64_code 128 = .ok (.iadd, 1)) ∧ (decode prog_14_method_64_code 129 = .ok (.iaload, 1)) ∧ (decode prog_14_method_64_code 130 = .ok (.putfield 260, 3)) ∧ (decode prog_14_method_64_code 133 = .ok (.return_, 1)) := by decide +kernel
theorem d189_116 : decode prog_14_method_64_code 116 = .ok (.putfield 257, 3) := dd189_116.1
theorem d189_119 : decode prog_14_method_64_code 119 = .ok (.aload_n 0, 1) := dd189_116.2.1
theorem d189_120 : decode prog_14_method_64_code 120 = .ok (.aload_n 0, 1) := dd189_116.2.2.1
theorem d189_121 : decode prog_14_method_64_code 121 = .ok (.getfield 123, 3) := dd189_116.2.2.2.1
theorem d189_124 : decode prog_14_method_64_code 124 = .ok (.iconst 5, 1) := dd189_116.2.2.2.2.1
theorem d189_125 : decode prog_14_method_64_code 125 = .ok (.iload_n 1, 1) := dd189_116.2.2.2.2.2.1
theorem d189_126 : decode prog_14_method_64_code 126 = .ok (.imul, 1) := dd189_116.2.2.2.2.2.2.1
theorem d189_127 : decode prog_14_method_64_code 127 = .ok (.iconst 4, 1) := dd189_116.2.2.2.2.2.2.2.1
theorem d189_128 : decode prog_14_method_64_code 128 = .ok (.iadd, 1) := dd189_116.2.2.2.2.2.2.2.2.1
theorem d189_129 : decode prog_14_method_64_code 129 = .ok (.iaload, 1) := dd189_116.2.2.2.2.2.2.2.2.2.1
theorem d189_130 : decode prog_14_method_64_code 130 = .ok (.putfield 260, 3) := dd189_116.2.2.2.2.2.2.2.2.2.2.1
theorem d189_133 : decode prog_14_method_64_code 133 = .ok (.return_, 1) := dd189_116.2.2.2.2.2.2.2.2.2.2.2
theorem b189_0 {d : Nat} {S : mm_S} {a0 : Nat} {x1 : Int32} : mm_ex d 189 0 [.ref a0, .int x1, .null] [] S =
    mm_ex d 189 2 [.ref a0, .int x1, .int (nI 0)] [] S :=
  Eq.trans (mx_iconst t189 d189_0 (v := nI 0) rfl) <|
  (mx_istore_n t189 d189_1 (ls' := [.ref a0, .int x1, .int (nI 0)]) rfl rfl)
theorem b189_2 {d : Nat} {S : mm_S} {a0 : Nat} {x1 : Int32} {x2 : Int32} : mm_ex d 189 2 [.ref a0, .int x1, .int x2] [] S =
    if (nI 6) ≤ x2 then mm_ex d 189 65 [.ref a0, .int x1, .int x2] [] S else mm_ex d 189 8 [.ref a0, .int x1, .int x2] [] S :=
  Eq.trans (mx_iload_n t189 d189_2 (x := x2) rfl) <|
  Eq.trans (mx_bipush t189 d189_3 (v := nI 6) rfl) <|
  (mx_cge t189 d189_5 (tgt := 65) (by decide))
theorem b189_8 {d : Nat} {S : mm_S} {a0 : Nat} {x1 : Int32} {x2 : Int32} (h0 : mm_obj S a0 12 = true) (h1 : (mm_R S a0 9).isSome = true) (h2 : (mm_R S a0 55).isSome = true) (h3 : mm_inb (((nI 6) * x1) + x2) (mm_N S (mm_rg S a0 55)) = true) (h4 : mm_arr S (mm_rg S a0 55) 13 = true) (h5 : mm_arr S (mm_rg S a0 9) 13 = true) (h6 : mm_inb x2 (mm_N S (mm_rg S a0 9)) = true) (h7 : (mm_R S a0 5).isSome = true) (h8 : (mm_R S a0 56).isSome = true) : mm_ex d 189 8 [.ref a0, .int x1, .int x2] [] S =
    mm_ex d 189 40 [.ref a0, .int x1, .int x2] [.int (((nI 6) * x1) + x2), .ref (mm_rg S a0 56), .int x2, .ref (mm_rg S a0 5)] (mm_uM S (mm_rg S a0 9) (x2).toNatClampNeg (mm_M S (mm_rg S a0 55) (((nI 6) * x1) + x2).toNatClampNeg)) :=
  Eq.trans (mx_aload_n t189 d189_8 (x := a0) rfl) <|
  Eq.trans (mx_getR t189 d189_9 rfl fl12_33 h0 h1) <|
  Eq.trans (mx_iload_n t189 d189_12 (x := x2) rfl) <|
  Eq.trans (mx_aload_n t189 d189_13 (x := a0) rfl) <|
  Eq.trans (mx_getR t189 d189_14 rfl fl12_114 h0 h2) <|
  Eq.trans (mx_bipush t189 d189_17 (v := nI 6) rfl) <|
  Eq.trans (mx_iload_n t189 d189_19 (x := x1) rfl) <|
  Eq.trans (mx_imul t189 d189_20) <|
  Eq.trans (mx_iload_n t189 d189_21 (x := x2) rfl) <|
  Eq.trans (mx_iadd t189 d189_22) <|
  Eq.trans (mx_iald t189 d189_23 h4 h3) <|
  Eq.trans (mx_iast2 t189 d189_24 h5 h6) <|
  Eq.trans (mx_aload_n t189 d189_25 (x := a0) rfl) <|
  Eq.trans (mx_getR t189 d189_26 rfl fl12_24 h0 h7) <|
  Eq.trans (mx_iload_n t189 d189_29 (x := x2) rfl) <|
  Eq.trans (mx_aload_n t189 d189_30 (x := a0) rfl) <|
  Eq.trans (mx_getR t189 d189_31 rfl fl12_117 h0 h8) <|
  Eq.trans (mx_bipush t189 d189_34 (v := nI 6) rfl) <|
  Eq.trans (mx_iload_n t189 d189_36 (x := x1) rfl) <|
  Eq.trans (mx_imul t189 d189_37) <|
  Eq.trans (mx_iload_n t189 d189_38 (x := x2) rfl) <|
  (mx_iadd t189 d189_39)
theorem b189_40 {d : Nat} {S : mm_S} {a0 : Nat} {x1 : Int32} {x2 : Int32} {p0 : Int32} {p1 : Nat} {p2 : Int32} {p3 : Nat} (h0 : mm_inb p0 (mm_N S p1) = true) (h1 : mm_arr S p1 13 = true) (h2 : mm_arr S p3 13 = true) (h3 : mm_inb p2 (mm_N S p3) = true) (h4 : mm_obj S a0 12 = true) (h5 : (mm_R S a0 6).isSome = true) (h6 : (mm_R S a0 57).isSome = true) : mm_ex d 189 40 [.ref a0, .int x1, .int x2] [.int p0, .ref p1, .int p2, .ref p3] S =
    mm_ex d 189 57 [.ref a0, .int x1, .int x2] [.int (((nI 6) * x1) + x2), .ref (mm_rg S a0 57), .int x2, .ref (mm_rg S a0 6)] (mm_uM S p3 (p2).toNatClampNeg (mm_M S p1 (p0).toNatClampNeg)) :=
  Eq.trans (mx_iald t189 d189_40 h1 h0) <|
  Eq.trans (mx_iast2 t189 d189_41 h2 h3) <|
  Eq.trans (mx_aload_n t189 d189_42 (x := a0) rfl) <|
  Eq.trans (mx_getR t189 d189_43 rfl fl12_27 h4 h5) <|
  Eq.trans (mx_iload_n t189 d189_46 (x := x2) rfl) <|
  Eq.trans (mx_aload_n t189 d189_47 (x := a0) rfl) <|
  Eq.trans (mx_getR t189 d189_48 rfl fl12_120 h4 h6) <|
  Eq.trans (mx_bipush t189 d189_51 (v := nI 6) rfl) <|
  Eq.trans (mx_iload_n t189 d189_53 (x := x1) rfl) <|
  Eq.trans (mx_imul t189 d189_54) <|
  Eq.trans (mx_iload_n t189 d189_55 (x := x2) rfl) <|
  (mx_iadd t189 d189_56)
theorem b189_57 {d : Nat} {S : mm_S} {a0 : Nat} {x1 : Int32} {x2 : Int32} {p0 : Int32} {p1 : Nat} {p2 : Int32} {p3 : Nat} (h0 : mm_inb p0 (mm_N S p1) = true) (h1 : mm_arr S p1 13 = true) (h2 : mm_arr S p3 13 = true) (h3 : mm_inb p2 (mm_N S p3) = true) : mm_ex d 189 57 [.ref a0, .int x1, .int x2] [.int p0, .ref p1, .int p2, .ref p3] S =
    mm_ex d 189 2 [.ref a0, .int x1, .int (x2 + nI 1)] [] (mm_uM S p3 (p2).toNatClampNeg (mm_M S p1 (p0).toNatClampNeg)) :=
  Eq.trans (mx_iald t189 d189_57 h1 h0) <|
  Eq.trans (mx_iast2 t189 d189_58 h2 h3) <|
  Eq.trans (mx_iinc t189 d189_59 (x := x2) (v := nI 1) (ls' := [.ref a0, .int x1, .int (x2 + nI 1)]) rfl rfl rfl rfl) <|
  (mx_goto t189 d189_62 (tgt := 2) (by decide))
theorem b189_65 {d : Nat} {S : mm_S} {a0 : Nat} {x1 : Int32} {x2 : Int32} (h0 : mm_obj S a0 12 = true) (h1 : (mm_R S a0 58).isSome = true) (h2 : mm_inb ((nI 5) * x1) (mm_N S (mm_rg S a0 58)) = true) (h3 : mm_arr S (mm_rg S a0 58) 13 = true) : mm_ex d 189 65 [.ref a0, .int x1, .int x2] [] S =
    mm_ex d 189 87 [.ref a0, .int x1, .int x2] [.int (((nI 5) * x1) + (nI 1)), .ref (mm_rg S a0 58), .ref a0] (mm_uM S a0 8 (mm_M S (mm_rg S a0 58) ((nI 5) * x1).toNatClampNeg)) :=
  Eq.trans (mx_aload_n t189 d189_65 (x := a0) rfl) <|
  Eq.trans (mx_aload_n t189 d189_66 (x := a0) rfl) <|
  Eq.trans (mx_getR t189 d189_67 rfl fl12_123 h0 h1) <|
  Eq.trans (mx_iconst t189 d189_70 (v := nI 5) rfl) <|
  Eq.trans (mx_iload_n t189 d189_71 (x := x1) rfl) <|
  Eq.trans (mx_imul t189 d189_72) <|
  Eq.trans (mx_iald t189 d189_73 h3 h2) <|
  Eq.trans (mx_puti2 t189 d189_74 fl12_166 rfl h0) <|
  Eq.trans (mx_aload_n t189 d189_77 (x := a0) rfl) <|
  Eq.trans (mx_aload_n t189 d189_78 (x := a0) rfl) <|
  Eq.trans (mx_getR t189 d189_79 rfl fl12_123 h0 h1) <|
  Eq.trans (mx_iconst t189 d189_82 (v := nI 5) rfl) <|
  Eq.trans (mx_iload_n t189 d189_83 (x := x1) rfl) <|
  Eq.trans (mx_imul t189 d189_84) <|
  Eq.trans (mx_iconst t189 d189_85 (v := nI 1) rfl) <|
  (mx_iadd t189 d189_86)
theorem b189_87 {d : Nat} {S : mm_S} {a0 : Nat} {x1 : Int32} {x2 : Int32} {p0 : Int32} {p1 : Nat} {p2 : Nat} (h0 : mm_inb p0 (mm_N S p1) = true) (h1 : mm_arr S p1 13 = true) (h2 : mm_obj S p2 12 = true) (h3 : mm_obj S a0 12 = true) (h4 : (mm_R S a0 58).isSome = true) : mm_ex d 189 87 [.ref a0, .int x1, .int x2] [.int p0, .ref p1, .ref p2] S =
    mm_ex d 189 101 [.ref a0, .int x1, .int x2] [.int (((nI 5) * x1) + (nI 2)), .ref (mm_rg S a0 58), .ref a0] (mm_uM S p2 10 (mm_M S p1 (p0).toNatClampNeg)) :=
  Eq.trans (mx_iald t189 d189_87 h1 h0) <|
  Eq.trans (mx_puti2 t189 d189_88 fl12_36 rfl h2) <|
  Eq.trans (mx_aload_n t189 d189_91 (x := a0) rfl) <|
  Eq.trans (mx_aload_n t189 d189_92 (x := a0) rfl) <|
  Eq.trans (mx_getR t189 d189_93 rfl fl12_123 h3 h4) <|
  Eq.trans (mx_iconst t189 d189_96 (v := nI 5) rfl) <|
  Eq.trans (mx_iload_n t189 d189_97 (x := x1) rfl) <|
  Eq.trans (mx_imul t189 d189_98) <|
  Eq.trans (mx_iconst t189 d189_99 (v := nI 2) rfl) <|
  (mx_iadd t189 d189_100)
theorem b189_101 {d : Nat} {S : mm_S} {a0 : Nat} {x1 : Int32} {x2 : Int32} {p0 : Int32} {p1 : Nat} {p2 : Nat} (h0 : mm_inb p0 (mm_N S p1) = true) (h1 : mm_arr S p1 13 = true) (h2 : mm_obj S p2 12 = true) (h3 : mm_obj S a0 12 = true) (h4 : (mm_R S a0 58).isSome = true) : mm_ex d 189 101 [.ref a0, .int x1, .int x2] [.int p0, .ref p1, .ref p2] S =
    mm_ex d 189 115 [.ref a0, .int x1, .int x2] [.int (((nI 5) * x1) + (nI 3)), .ref (mm_rg S a0 58), .ref a0] (mm_uM S p2 11 (mm_M S p1 (p0).toNatClampNeg)) :=
  Eq.trans (mx_iald t189 d189_101 h1 h0) <|
  Eq.trans (mx_puti2 t189 d189_102 fl12_40 rfl h2) <|
  Eq.trans (mx_aload_n t189 d189_105 (x := a0) rfl) <|
  Eq.trans (mx_aload_n t189 d189_106 (x := a0) rfl) <|
  Eq.trans (mx_getR t189 d189_107 rfl fl12_123 h3 h4) <|
  Eq.trans (mx_iconst t189 d189_110 (v := nI 5) rfl) <|
  Eq.trans (mx_iload_n t189 d189_111 (x := x1) rfl) <|
  Eq.trans (mx_imul t189 d189_112) <|
  Eq.trans (mx_iconst t189 d189_113 (v := nI 3) rfl) <|
  (mx_iadd t189 d189_114)
theorem b189_115 {d : Nat} {S : mm_S} {a0 : Nat} {x1 : Int32} {x2 : Int32} {p0 : Int32} {p1 : Nat} {p2 : Nat} (h0 : mm_inb p0 (mm_N S p1) = true) (h1 : mm_arr S p1 13 = true) (h2 : mm_obj S p2 12 = true) (h3 : mm_obj S a0 12 = true) (h4 : (mm_R S a0 58).isSome = true) : mm_ex d 189 115 [.ref a0, .int x1, .int x2] [.int p0, .ref p1, .ref p2] S =
    mm_ex d 189 129 [.ref a0, .int x1, .int x2] [.int (((nI 5) * x1) + (nI 4)), .ref (mm_rg S a0 58), .ref a0] (mm_uM S p2 12 (mm_M S p1 (p0).toNatClampNeg)) :=
  Eq.trans (mx_iald t189 d189_115 h1 h0) <|
  Eq.trans (mx_puti2 t189 d189_116 fl12_257 rfl h2) <|
  Eq.trans (mx_aload_n t189 d189_119 (x := a0) rfl) <|
  Eq.trans (mx_aload_n t189 d189_120 (x := a0) rfl) <|
  Eq.trans (mx_getR t189 d189_121 rfl fl12_123 h3 h4) <|
  Eq.trans (mx_iconst t189 d189_124 (v := nI 5) rfl) <|
  Eq.trans (mx_iload_n t189 d189_125 (x := x1) rfl) <|
  Eq.trans (mx_imul t189 d189_126) <|
  Eq.trans (mx_iconst t189 d189_127 (v := nI 4) rfl) <|
  (mx_iadd t189 d189_128)
theorem b189_129 {d : Nat} {S : mm_S} {a0 : Nat} {x1 : Int32} {x2 : Int32} {p0 : Int32} {p1 : Nat} {p2 : Nat} (h0 : mm_inb p0 (mm_N S p1) = true) (h1 : mm_arr S p1 13 = true) (h2 : mm_obj S p2 12 = true) : mm_ex d 189 129 [.ref a0, .int x1, .int x2] [.int p0, .ref p1, .ref p2] S =
    some (none, (mm_uM S p2 13 (mm_M S p1 (p0).toNatClampNeg))) :=
  Eq.trans (mx_iald t189 d189_129 h1 h0) <|
  Eq.trans (mx_puti2 t189 d189_130 fl12_260 rfl h2) <|
  (mx_vret t189 d189_133 rfl)
theorem e189 {d : Nat} {S : mm_S} {a0 : Nat} {x1 : Int32} : mm_cl d 189 [.ref a0, .int x1] S = mm_ex d 189 0 [.ref a0, .int x1, .null] [] S := mm_cl_eq t189 (Nat.le_of_ble_eq_true rfl) rfl
/-! X12_slipsOn -/
theorem dd190_0 : (decode prog_14_method_65_code 0 = .ok (.lload_n 3, 1)) ∧ (decode prog_14_method_65_code 1 = .ok (.lconst 0, 1)) ∧ (decode prog_14_method_65_code 2 = .ok (.lcmp, 1)) ∧ (decode prog_14_method_65_code 3 = .ok (.ifCond .eq 10, 3)) ∧ (decode prog_14_method_65_code 6 = .ok (.aload_n 0, 1)) ∧ (decode prog_14_method_65_code 7 = .ok (.invokevirtual 290, 3)) ∧ (decode prog_14_method_65_code 10 = .ok (.ifCond .ne 4, 3)) ∧ (decode prog_14_method_65_code 13 = .ok (.return_, 1)) ∧ (decode prog_14_method_65_code 14 = .ok (.iload_n 2, 1)) ∧ (decode prog_14_method_65_code 15 = .ok (.bipush 12, 2)) ∧ (decode prog_14_method_65_code 17 = .ok (.if_icmp .ne 9, 3)) ∧ (decode prog_14_method_65_code 20 = .ok (.aload_n 0, 1)) ∧ (decode prog_14_method_65_code 21 = .ok (.iconst 1, 1)) ∧ (decode prog_14_method_65_code 22 = .ok (.putfield 343, 3)) ∧ (decode prog_14_method_65_code 25 = .ok (.return_, 1)) ∧ (decode prog_14_method_65_code 26 = .ok (.aload_n 0, 1)) := by decide +kernel
theorem d190_0 : decode prog_14_method_65_code 0 = .ok (.lload_n 3, 1) := dd190_0.1
theorem d190_1 : decode prog_14_method_65_code 1 = .ok (.lconst 0, 1) := dd190_0.2.1
theorem d190_2 : decode prog_14_method_65_code 2 = .ok (.lcmp, 1) := dd190_0.2.2.1
theorem d190_3 : decode prog_14_method_65_code 3 = .ok (.ifCond .eq 10, 3) := dd190_0.2.2.2.1
theorem d190_6 : decode prog_14_method_65_code 6 = .ok (.aload_n 0, 1) := dd190_0.2.2.2.2.1
theorem d190_7 : decode prog_14_method_65_code 7 = .ok (.invokevirtual 290, 3) := dd190_0.2.2.2.2.2.1
theorem d190_10 : decode prog_14_method_65_code 10 = .ok (.ifCond .ne 4, 3) := dd190_0.2.2.2.2.2.2.1
theorem d190_13 : decode prog_14_method_65_code 13 = .ok (.return_, 1) := dd190_0.2.2.2.2.2.2.2.1
theorem d190_14 : decode prog_14_method_65_code 14 = .ok (.iload_n 2, 1) := dd190_0.2.2.2.2.2.2.2.2.1
theorem d190_15 : decode prog_14_method_65_code 15 = .ok (.bipush 12, 2) := dd190_0.2.2.2.2.2.2.2.2.2.1
theorem d190_17 : decode prog_14_method_65_code 17 = .ok (.if_icmp .ne 9, 3) := dd190_0.2.2.2.2.2.2.2.2.2.2.1
theorem d190_20 : decode prog_14_method_65_code 20 = .ok (.aload_n 0, 1) := dd190_0.2.2.2.2.2.2.2.2.2.2.2.1
theorem d190_21 : decode prog_14_method_65_code 21 = .ok (.iconst 1, 1) := dd190_0.2.2.2.2.2.2.2.2.2.2.2.2.1
theorem d190_22 : decode prog_14_method_65_code 22 = .ok (.putfield 343, 3) := dd190_0.2.2.2.2.2.2.2.2.2.2.2.2.2.1
theorem d190_25 : decode prog_14_method_65_code 25 = .ok (.return_, 1) := dd190_0.2.2.2.2.2.2.2.2.2.2.2.2.2.2.1
theorem d190_26 : decode prog_14_method_65_code 26 = .ok (.aload_n 0, 1) := dd190_0.2.2.2.2.2.2.2.2.2.2.2.2.2.2.2
theorem dd190_27 : (decode prog_14_method_65_code 27 = .ok (.aload_n 0, 1)) ∧ (decode prog_14_method_65_code 28 = .ok (.getfield 33, 3)) ∧ (decode prog_14_method_65_code 31 = .ok (.iconst 0, 1)) ∧ (decode prog_14_method_65_code 32 = .ok (.iaload, 1)) ∧ (decode prog_14_method_65_code 33 = .ok (.invokevirtual 281, 3)) ∧ (decode prog_14_method_65_code 36 = .ok (.istore 5, 2)) ∧ (decode prog_14_method_65_code 38 = .ok (.aload_n 0, 1)) ∧ (decode prog_14_method_65_code 39 = .ok (.iload_n 2, 1)) ∧ (decode prog_14_method_65_code 40 = .ok (.invokevirtual 347, 3)) ∧ (decode prog_14_method_65_code 43 = .ok (.iload 5, 2)) ∧ (decode prog_14_method_65_code 45 = .ok (.iconst 1, 1)) ∧ (decode prog_14_method_65_code 46 = .ok (.if_icmp .eq 21, 3)) ∧ (decode prog_14_method_65_code 49 = .ok (.aload_n 0, 1)) ∧ (decode prog_14_method_65_code 50 = .ok (.iload 5, 2)) ∧ (decode prog_14_method_65_code 52 = .ok (.invokevirtual 293, 3)) ∧ (decode prog_14_method_65_code 55 = .ok (.aload_n 0, 1)) := by decide +kernel
theorem d190_27 : decode prog_14_method_65_code 27 = .ok (.aload_n 0, 1) := dd190_27.1
theorem d190_28 : decode prog_14_method_65_code 28 = .ok (.getfield 33, 3) := dd190_27.2.1
theorem d190_31 : decode prog_14_method_65_code 31 = .ok (.iconst 0, 1) := dd190_27.2.2.1
theorem d190_32 : decode prog_14_method_65_code 32 = .ok (.iaload, 1) := dd190_27.2.2.2.1
theorem d190_33 : decode prog_14_method_65_code 33 = .ok (.invokevirtual 281, 3) := dd190_27.2.2.2.2.1
theorem d190_36 : decode prog_14_method_65_code 36 = .ok (.istore 5, 2) := dd190_27.2.2.2.2.2.1
theorem d190_38 : decode prog_14_method_65_code 38 = .ok (.aload_n 0, 1) := dd190_27.2.2.2.2.2.2.1
theorem d190_39 : decode prog_14_method_65_code 39 = .ok (.iload_n 2, 1) := dd190_27.2.2.2.2.2.2.2.1
theorem d190_40 : decode prog_14_method_65_code 40 = .ok (.invokevirtual 347, 3) := dd190_27.2.2.2.2.2.2.2.2.1
theorem d190_43 : decode prog_14_method_65_code 43 = .ok (.iload 5, 2) := dd190_27.2.2.2.2.2.2.2.2.2.1
theorem d190_45 : decode prog_14_method_65_code 45 = .ok (.iconst 1, 1) := dd190_27.2.2.2.2.2.2.2.2.2.2.1
theorem d190_46 : decode prog_14_method_65_code 46 = .ok (.if_icmp .eq 21, 3) := dd190_27.2.2.2.2.2.2.2.2.2.2.2.1
theorem d190_49 : decode prog_14_method_65_code 49 = .ok (.aload_n 0, 1) := dd190_27.2.2.2.2.2.2.2.2.2.2.2.2.1
theorem d190_50 : decode prog_14_method_65_code 50 = .ok (.iload 5, 2) := dd190_27.2.2.2.2.2.2.2.2.2.2.2.2.2.1
theorem d190_52 : decode prog_14_method_65_code 52 = .ok (.invokevirtual 293, 3) := dd190_27.2.2.2.2.2.2.2.2.2.2.2.2.2.2.1
theorem d190_55 : decode prog_14_method_65_code 55 = .ok (.aload_n 0, 1) := dd190_27.2.2.2.2.2.2.2.2.2.2.2.2.2.2.2
theorem dd190_56 : (decode prog_14_method_65_code 56 = .ok (.iload_n 1, 1)) ∧ (decode prog_14_method_65_code 57 = .ok (.iload_n 2, 1)) ∧ (decode prog_14_method_65_code 58 = .ok (.iconst 1, 1)) ∧ (decode prog_14_method_65_code 59 = .ok (.iadd, 1)) ∧ (decode prog_14_method_65_code 60 = .ok (.lload_n 3, 1)) ∧ (decode prog_14_method_65_code 61 = .ok (.invokevirtual 350, 3)) ∧ (decode prog_14_method_65_code 64 = .ok (.goto 80, 3)) ∧ (decode prog_14_method_65_code 67 = .ok (.lload_n 3, 1)) ∧ (decode prog_14_method_65_code 68 = .ok (.ldc2_w 354, 3)) ∧ (decode prog_14_method_65_code 71 = .ok (.ldiv, 1)) ∧ (decode prog_14_method_65_code 72 = .ok (.aload_n 0, 1)) ∧ (decode prog_14_method_65_code 73 = .ok (.getfield 340, 3)) ∧ (decode prog_14_method_65_code 76 = .ok (.i2l, 1)) ∧ (decode prog_14_method_65_code 77 = .ok (.lmul, 1)) ∧ (decode prog_14_method_65_code 78 = .ok (.lstore 6, 2)) ∧ (decode prog_14_method_65_code 80 = .ok (.aload_n 0, 1)) := by decide +kernel
theorem d190_56 : decode prog_14_method_65_code 56 = .ok (.iload_n 1, 1) := dd190_56.1
theorem d190_57 : decode prog_14_method_65_code 57 = .ok (.iload_n 2, 1) := dd190_56.2.1
theorem d190_58 : decode prog_14_method_65_code 58 = .ok (.iconst 1, 1) := dd190_56.2.2.1
theorem d190_59 : decode prog_14_method_65_code 59 = .ok (.iadd, 1) := dd190_56.2.2.2.1
theorem d190_60 : decode prog_14_method_65_code 60 = .ok (.lload_n 3, 1) := dd190_56.2.2.2.2.1
theorem d190_61 : decode prog_14_method_65_code 61 = .ok (.invokevirtual 350, 3) := dd190_56.2.2.2.2.2.1
theorem d190_64 : decode prog_14_method_65_code 64 = .ok (.goto 80, 3) := dd190_56.2.2.2.2.2.2.1
theorem d190_67 : decode prog_14_method_65_code 67 = .ok (.lload_n 3, 1) := dd190_56.2.2.2.2.2.2.2.1
theorem d190_68 : decode prog_14_method_65_code 68 = .ok (.ldc2_w 354, 3) := dd190_56.2.2.2.2.2.2.2.2.1
theorem d190_71 : decode prog_14_method_65_code 71 = .ok (.ldiv, 1) := dd190_56.2.2.2.2.2.2.2.2.2.1
theorem d190_72 : decode prog_14_method_65_code 72 = .ok (.aload_n 0, 1) := dd190_56.2.2.2.2.2.2.2.2.2.2.1
theorem d190_73 : decode prog_14_method_65_code 73 = .ok (.getfield 340, 3) := dd190_56.2.2.2.2.2.2.2.2.2.2.2.1
theorem d190_76 : decode prog_14_method_65_code 76 = .ok (.i2l, 1) := dd190_56.2.2.2.2.2.2.2.2.2.2.2.2.1
theorem d190_77 : decode prog_14_method_65_code 77 = .ok (.lmul, 1) := dd190_56.2.2.2.2.2.2.2.2.2.2.2.2.2.1
theorem d190_78 : decode prog_14_method_65_code 78 = .ok (.lstore 6, 2) := dd190_56.2.2.2.2.2.2.2.2.2.2.2.2.2.2.1
theorem d190_80 : decode prog_14_method_65_code 80 = .ok (.aload_n 0, 1) := dd190_56.2.2.2.2.2.2.2.2.2.2.2.2.2.2.2
theorem dd190_81 : (decode prog_14_method_65_code 81 = .ok (.dup, 1)) ∧ (decode prog_14_method_65_code 82 = .ok (.getfield 356, 3)) ∧ (decode prog_14_method_65_code 85 = .ok (.aload_n 0, 1)) ∧ (decode prog_14_method_65_code 86 = .ok (.getfield 33, 3)) ∧ (decode prog_14_method_65_code 89 = .ok (.iconst 0, 1)) ∧ (decode prog_14_method_65_code 90 = .ok (.iaload, 1)) ∧ (decode prog_14_method_65_code 91 = .ok (.iload_n 1, 1)) ∧ (decode prog_14_method_65_code 92 = .ok (.if_icmp .ne 10, 3)) ∧ (decode prog_14_method_65_code 95 = .ok (.lload_n 3, 1)) ∧ (decode prog_14_method_65_code 96 = .ok (.lload 6, 2)) ∧ (decode prog_14_method_65_code 98 = .ok (.lsub, 1)) ∧ (decode prog_14_method_65_code 99 = .ok (.goto 4, 3)) ∧ (decode prog_14_method_65_code 102 = .ok (.lconst 0, 1)) ∧ (decode prog_14_method_65_code 103 = .ok (.ladd, 1)) ∧ (decode prog_14_method_65_code 104 = .ok (.putfield 356, 3)) ∧ (decode prog_14_method_65_code 107 = .ok (.aload_n 0, 1)) := by decide +kernel
theorem d190_81 : decode prog_14_method_65_code 81 = .ok (.dup, 1) := dd190_81.1
theorem d190_82 : decode prog_14_method_65_code 82 = .ok (.getfield 356, 3) := dd190_81.2.1
theorem d190_85 : decode prog_14_method_65_code 85 = .ok (.aload_n 0, 1) := dd190_81.2.2.1
theorem d190_86 : decode prog_14_method_65_code 86 = .ok (.getfield 33, 3) := dd190_81.2.2.2.1
theorem d190_89 : decode prog_14_method_65_code 89 = .ok (.iconst 0, 1) := dd190_81.2.2.2.2.1
theorem d190_90 : decode prog_14_method_65_code 90 = .ok (.iaload, 1) := dd190_81.2.2.2.2.2.1
theorem d190_91 : decode prog_14_method_65_code 91 = .ok (.iload_n 1, 1) := dd190_81.2.2.2.2.2.2.1
theorem d190_92 : decode prog_14_method_65_code 92 = .ok (.if_icmp .ne 10, 3) := dd190_81.2.2.2.2.2.2.2.1
theorem d190_95 : decode prog_14_method_65_code 95 = .ok (.lload_n 3, 1) := dd190_81.2.2.2.2.2.2.2.2.1
theorem d190_96 : decode prog_14_method_65_code 96 = .ok (.lload 6, 2) := dd190_81.2.2.2.2.2.2.2.2.2.1
theorem d190_98 : decode prog_14_method_65_code 98 = .ok (.lsub, 1) := dd190_81.2.2.2.2.2.2.2.2.2.2.1
theorem d190_99 : decode prog_14_method_65_code 99 = .ok (.goto 4, 3) := dd190_81.2.2.2.2.2.2.2.2.2.2.2.1
theorem d190_102 : decode prog_14_method_65_code 102 = .ok (.lconst 0, 1) := dd190_81.2.2.2.2.2.2.2.2.2.2.2.2.1
theorem d190_103 : decode prog_14_method_65_code 103 = .ok (.ladd, 1) := dd190_81.2.2.2.2.2.2.2.2.2.2.2.2.2.1
theorem d190_104 : decode prog_14_method_65_code 104 = .ok (.putfield 356, 3) := dd190_81.2.2.2.2.2.2.2.2.2.2.2.2.2.2.1
theorem d190_107 : decode prog_14_method_65_code 107 = .ok (.aload_n 0, 1) := dd190_81.2.2.2.2.2.2.2.2.2.2.2.2.2.2.2
theorem dd190_108 : (decode prog_14_method_65_code 108 = .ok (.iconst 1, 1)) ∧ (decode prog_14_method_65_code 109 = .ok (.invokevirtual 293, 3)) ∧ (decode prog_14_method_65_code 112 = .ok (.aload_n 0, 1)) ∧ (decode prog_14_method_65_code 113 = .ok (.iload_n 1, 1)) ∧ (decode prog_14_method_65_code 114 = .ok (.iload_n 2, 1)) ∧ (decode prog_14_method_65_code 115 = .ok (.iconst 1, 1)) ∧ (decode prog_14_method_65_code 116 = .ok (.iadd, 1)) ∧ (decode prog_14_method_65_code 117 = .ok (.lload_n 3, 1)) ∧ (decode prog_14_method_65_code 118 = .ok (.lload 6, 2)) ∧ (decode prog_14_method_65_code 120 = .ok (.lsub, 1)) ∧ (decode prog_14_method_65_code 121 = .ok (.invokevirtual 350, 3)) ∧ (decode prog_14_method_65_code 124 = .ok (.aload_n 0, 1)) ∧ (decode prog_14_method_65_code 125 = .ok (.iload_n 2, 1)) ∧ (decode prog_14_method_65_code 126 = .ok (.invokevirtual 360, 3)) ∧ (decode prog_14_method_65_code 129 = .ok (.aload_n 0, 1)) ∧ (decode prog_14_method_65_code 130 = .ok (.iconst 2, 1)) := by decide +kernel
theorem d190_108 : decode prog_14_method_65_code 108 = .ok (.iconst 1, 1) := dd190_108.1
theorem d190_109 : decode prog_14_method_65_code 109 = .ok (.invokevirtual 293, 3) := dd190_108.2.1
theorem d190_112 : decode prog_14_method_65_code 112 = .ok (.aload_n 0, 1) := dd190_108.2.2.1
theorem d190_113 : decode prog_14_method_65_code 113 = .ok (.iload_n 1, 1) := dd190_108.2.2.2.1
theorem d190_114 : decode prog_14_method_65_code 114 = .ok (.iload_n 2, 1) := dd190_108.2.2.2.2.1
theorem d190_115 : decode prog_14_method_65_code 115 = .ok (.iconst 1, 1) := dd190_108.2.2.2.2.2.1
theorem d190_116 : decode prog_14_method_65_code 116 = .ok (.iadd, 1) := dd190_108.2.2.2.2.2.2.1
theorem d190_117 : decode prog_14_method_65_code 117 = .ok (.lload_n 3, 1) := dd190_108.2.2.2.2.2.2.2.1
theorem d190_118 : decode prog_14_method_65_code 118 = .ok (.lload 6, 2) := dd190_108.2.2.2.2.2.2.2.2.1
theorem d190_120 : decode prog_14_method_65_code 120 = .ok (.lsub, 1) := dd190_108.2.2.2.2.2.2.2.2.2.1
theorem d190_121 : decode prog_14_method_65_code 121 = .ok (.invokevirtual 350, 3) := dd190_108.2.2.2.2.2.2.2.2.2.2.1
theorem d190_124 : decode prog_14_method_65_code 124 = .ok (.aload_n 0, 1) := dd190_108.2.2.2.2.2.2.2.2.2.2.2.1
theorem d190_125 : decode prog_14_method_65_code 125 = .ok (.iload_n 2, 1) := dd190_108.2.2.2.2.2.2.2.2.2.2.2.2.1
theorem d190_126 : decode prog_14_method_65_code 126 = .ok (.invokevirtual 360, 3) := dd190_108.2.2.2.2.2.2.2.2.2.2.2.2.2.1
theorem d190_129 : decode prog_14_method_65_code 129 = .ok (.aload_n 0, 1) := dd190_108.2.2.2.2.2.2.2.2.2.2.2.2.2.2.1
theorem d190_130 : decode prog_14_method_65_code 130 = .ok (.iconst 2, 1) := dd190_108.2.2.2.2.2.2.2.2.2.2.2.2.2.2.2
theorem dd190_131 : (decode prog_14_method_65_code 131 = .ok (.invokevirtual 293, 3)) ∧ (decode prog_14_method_65_code 134 = .ok (.aload_n 0, 1)) ∧ (decode prog_14_method_65_code 135 = .ok (.iload_n 1, 1)) ∧ (decode prog_14_method_65_code 136 = .ok (.iload_n 2, 1)) ∧ (decode prog_14_method_65_code 137 = .ok (.iconst 1, 1)) ∧ (decode prog_14_method_65_code 138 = .ok (.iadd, 1)) ∧ (decode prog_14_method_65_code 139 = .ok (.lload 6, 2)) ∧ (decode prog_14_method_65_code 141 = .ok (.invokevirtual 350, 3)) ∧ (decode prog_14_method_65_code 144 = .ok (.aload_n 0, 1)) ∧ (decode prog_14_method_65_code 145 = .ok (.iload_n 2, 1)) ∧ (decode prog_14_method_65_code 146 = .ok (.invokevirtual 360, 3)) ∧ (decode prog_14_method_65_code 149 = .ok (.return_, 1)) := by decide +kernel
theorem d190_131 : decode prog_14_method_65_code 131 = .ok (.invokevirtual 293, 3) := dd190_131.1
theorem d190_134 : decode prog_14_method_65_code 134 = .ok (.aload_n 0, 1) := dd190_131.2.1
theorem d190_135 : decode prog_14_method_65_code 135 = .ok (.iload_n 1, 1) := dd190_131.2.2.1
theorem d190_136 : decode prog_14_method_65_code 136 = .ok (.iload_n 2, 1) := dd190_131.2.2.2.1
theorem d190_137 : decode prog_14_method_65_code 137 = .ok (.iconst 1, 1) := dd190_131.2.2.2.2.1
theorem d190_138 : decode prog_14_method_65_code 138 = .ok (.iadd, 1) := dd190_131.2.2.2.2.2.1
theorem d190_139 : decode prog_14_method_65_code 139 = .ok (.lload 6, 2) := dd190_131.2.2.2.2.2.2.1
theorem d190_141 : decode prog_14_method_65_code 141 = .ok (.invokevirtual 350, 3) := dd190_131.2.2.2.2.2.2.2.1
theorem d190_144 : decode prog_14_method_65_code 144 = .ok (.aload_n 0, 1) := dd190_131.2.2.2.2.2.2.2.2.1
theorem d190_145 : decode prog_14_method_65_code 145 = .ok (.iload_n 2, 1) := dd190_131.2.2.2.2.2.2.2.2.2.1
theorem d190_146 : decode prog_14_method_65_code 146 = .ok (.invokevirtual 360, 3) := dd190_131.2.2.2.2.2.2.2.2.2.2.1
theorem d190_149 : decode prog_14_method_65_code 149 = .ok (.return_, 1) := dd190_131.2.2.2.2.2.2.2.2.2.2.2
theorem b190_0 {d : Nat} {S : mm_S} {a0 : Nat} {x1 : Int32} {x2 : Int32} {j3 : Int64} : mm_ex d 190 0 [.ref a0, .int x1, .int x2, .long j3, .null, .null, .null, .null] [] S =
    if (lg_cmp j3 0) = nI 0 then mm_ex d 190 13 [.ref a0, .int x1, .int x2, .long j3, .null, .null, .null, .null] [] S else mm_ex d 190 6 [.ref a0, .int x1, .int x2, .long j3, .null, .null, .null, .null] [] S :=
  Eq.trans (mx_lload_n t190 d190_0 (x := j3) rfl) <|
  Eq.trans (mx_lconst t190 d190_1 (v := 0) rfl) <|
  Eq.trans (mx_lcmp t190 d190_2) <|
  (mx_ieq t190 d190_3 (tgt := 13) (by decide))
theorem b190_6 {d : Nat} {S : mm_S} {a0 : Nat} {x1 : Int32} {x2 : Int32} {j3 : Int64} (h0 : mm_rk S a0 = 12) : mm_ex (d + 1) 190 6 [.ref a0, .int x1, .int x2, .long j3, .null, .null, .null, .null] [] S =
    mm_bd (mm_cl d 168 [.ref a0] S) (fun v S2 => mm_ex (d + 1) 190 10 [.ref a0, .int x1, .int x2, .long j3, .null, .null, .null, .null] (v.toList ++ []) S2) :=
  Eq.trans (mx_aload_n t190 d190_6 (x := a0) rfl) <|
  (mx_virt (st := []) (k := 12) t190 [] d190_7 vt12_290 rfl rfl (Nat.le_of_ble_eq_true rfl) (Nat.le_of_ble_eq_true rfl) h0)
theorem b190_10 {d : Nat} {S : mm_S} {a0 : Nat} {x1 : Int32} {x2 : Int32} {j3 : Int64} {p0 : Int32} : mm_ex d 190 10 [.ref a0, .int x1, .int x2, .long j3, .null, .null, .null, .null] [.int p0] S =
    if p0 = nI 0 then mm_ex d 190 13 [.ref a0, .int x1, .int x2, .long j3, .null, .null, .null, .null] [] S else mm_ex d 190 14 [.ref a0, .int x1, .int x2, .long j3, .null, .null, .null, .null] [] S :=
  (mx_ine t190 d190_10 (tgt := 14) (by decide))
theorem b190_13 {d : Nat} {S : mm_S} {a0 : Nat} {x1 : Int32} {x2 : Int32} {j3 : Int64} : mm_ex d 190 13 [.ref a0, .int x1, .int x2, .long j3, .null, .null, .null, .null] [] S =
    some (none, S) :=
  (mx_vret t190 d190_13 rfl)
theorem b190_14 {d : Nat} {S : mm_S} {a0 : Nat} {x1 : Int32} {x2 : Int32} {j3 : Int64} : mm_ex d 190 14 [.ref a0, .int x1, .int x2, .long j3, .null, .null, .null, .null] [] S =
    if x2 = (nI 12) then mm_ex d 190 20 [.ref a0, .int x1, .int x2, .long j3, .null, .null, .null, .null] [] S else mm_ex d 190 26 [.ref a0, .int x1, .int x2, .long j3, .null, .null, .null, .null] [] S :=
  Eq.trans (mx_iload_n t190 d190_14 (x := x2) rfl) <|
  Eq.trans (mx_bipush t190 d190_15 (v := nI 12) rfl) <|
  (mx_cne t190 d190_17 (tgt := 26) (by decide))
theorem b190_20 {d : Nat} {S : mm_S} {a0 : Nat} {x1 : Int32} {x2 : Int32} {j3 : Int64} (h0 : mm_obj S a0 12 = true) : mm_ex d 190 20 [.ref a0, .int x1, .int x2, .long j3, .null, .null, .null, .null] [] S =
    some (none, (mm_uM S a0 54 (nI 1))) :=
  Eq.trans (mx_aload_n t190 d190_20 (x := a0) rfl) <|
  Eq.trans (mx_iconst t190 d190_21 (v := nI 1) rfl) <|
  Eq.trans (mx_putz2 t190 d190_22 fl12_343 rfl h0 (Or.inr rfl)) <|
  (mx_vret t190 d190_25 rfl)
theorem b190_26 {d : Nat} {S : mm_S} {a0 : Nat} {x1 : Int32} {x2 : Int32} {j3 : Int64} (h0 : mm_obj S a0 12 = true) (h1 : (mm_R S a0 9).isSome = true) (h2 : mm_inb (nI 0) (mm_N S (mm_rg S a0 9)) = true) (h3 : mm_arr S (mm_rg S a0 9) 13 = true) (h4 : mm_rk S a0 = 12) : mm_ex (d + 1) 190 26 [.ref a0, .int x1, .int x2, .long j3, .null, .null, .null, .null] [] S =
    mm_bd (mm_cl d 166 [.ref a0, .int (mm_M S (mm_rg S a0 9) (nI 0).toNatClampNeg)] S) (fun v S2 => mm_ex (d + 1) 190 36 [.ref a0, .int x1, .int x2, .long j3, .null, .null, .null, .null] (v.toList ++ []) S2) :=
  Eq.trans (mx_aload_n t190 d190_26 (x := a0) rfl) <|
  Eq.trans (mx_aload_n t190 d190_27 (x := a0) rfl) <|
  Eq.trans (mx_getR t190 d190_28 rfl fl12_33 h0 h1) <|
  Eq.trans (mx_iconst t190 d190_31 (v := nI 0) rfl) <|
  Eq.trans (mx_iald t190 d190_32 h3 h2) <|
  (mx_virt (st := []) (k := 12) t190 [.int (mm_M S (mm_rg S a0 9) (nI 0).toNatClampNeg)] d190_33 vt12_281 rfl rfl (Nat.le_of_ble_eq_true rfl) (Nat.le_of_ble_eq_true rfl) h4)
theorem b190_36 {d : Nat} {S : mm_S} {a0 : Nat} {x1 : Int32} {x2 : Int32} {j3 : Int64} {p0 : Int32} (h0 : mm_rk S a0 = 12) : mm_ex (d + 1) 190 36 [.ref a0, .int x1, .int x2, .long j3, .null, .null, .null, .null] [.int p0] S =
    mm_bd (mm_cl d 188 [.ref a0, .int x2] S) (fun v S2 => mm_ex (d + 1) 190 43 [.ref a0, .int x1, .int x2, .long j3, .null, .int p0, .null, .null] (v.toList ++ []) S2) :=
  Eq.trans (mx_istore t190 d190_36 (ls' := [.ref a0, .int x1, .int x2, .long j3, .null, .int p0, .null, .null]) rfl rfl) <|
  Eq.trans (mx_aload_n t190 d190_38 (x := a0) rfl) <|
  Eq.trans (mx_iload_n t190 d190_39 (x := x2) rfl) <|
  (mx_virt (st := []) (k := 12) t190 [.int x2] d190_40 vt12_347 rfl rfl (Nat.le_of_ble_eq_true rfl) (Nat.le_of_ble_eq_true rfl) h0)
theorem b190_43 {d : Nat} {S : mm_S} {a0 : Nat} {x1 : Int32} {x2 : Int32} {j3 : Int64} {x5 : Int32} : mm_ex d 190 43 [.ref a0, .int x1, .int x2, .long j3, .null, .int x5, .null, .null] [] S =
    if x5 = (nI 1) then mm_ex d 190 67 [.ref a0, .int x1, .int x2, .long j3, .null, .int x5, .null, .null] [] S else mm_ex d 190 49 [.ref a0, .int x1, .int x2, .long j3, .null, .int x5, .null, .null] [] S :=
  Eq.trans (mx_iload t190 d190_43 (x := x5) rfl) <|
  Eq.trans (mx_iconst t190 d190_45 (v := nI 1) rfl) <|
  (mx_ceq t190 d190_46 (tgt := 67) (by decide))
theorem b190_49 {d : Nat} {S : mm_S} {a0 : Nat} {x1 : Int32} {x2 : Int32} {j3 : Int64} {x5 : Int32} (h0 : mm_rk S a0 = 12) : mm_ex (d + 1) 190 49 [.ref a0, .int x1, .int x2, .long j3, .null, .int x5, .null, .null] [] S =
    mm_bd (mm_cl d 169 [.ref a0, .int x5] S) (fun v S2 => mm_ex (d + 1) 190 55 [.ref a0, .int x1, .int x2, .long j3, .null, .int x5, .null, .null] (v.toList ++ []) S2) :=
  Eq.trans (mx_aload_n t190 d190_49 (x := a0) rfl) <|
  Eq.trans (mx_iload t190 d190_50 (x := x5) rfl) <|
  (mx_virt (st := []) (k := 12) t190 [.int x5] d190_52 vt12_293 rfl rfl (Nat.le_of_ble_eq_true rfl) (Nat.le_of_ble_eq_true rfl) h0)
theorem b190_55 {d : Nat} {S : mm_S} {a0 : Nat} {x1 : Int32} {x2 : Int32} {j3 : Int64} {x5 : Int32} (h0 : mm_rk S a0 = 12) : mm_ex (d + 1) 190 55 [.ref a0, .int x1, .int x2, .long j3, .null, .int x5, .null, .null] [] S =
    mm_bd (mm_cl d 190 [.ref a0, .int x1, .int (x2 + (nI 1)), .long j3] S) (fun v S2 => mm_ex (d + 1) 190 64 [.ref a0, .int x1, .int x2, .long j3, .null, .int x5, .null, .null] (v.toList ++ []) S2) :=
  Eq.trans (mx_aload_n t190 d190_55 (x := a0) rfl) <|
  Eq.trans (mx_iload_n t190 d190_56 (x := x1) rfl) <|
  Eq.trans (mx_iload_n t190 d190_57 (x := x2) rfl) <|
  Eq.trans (mx_iconst t190 d190_58 (v := nI 1) rfl) <|
  Eq.trans (mx_iadd t190 d190_59) <|
  Eq.trans (mx_lload_n t190 d190_60 (x := j3) rfl) <|
  (mx_virt (st := []) (k := 12) t190 [.int x1, .int (x2 + (nI 1)), .long j3] d190_61 vt12_350 rfl rfl (Nat.le_of_ble_eq_true rfl) (Nat.le_of_ble_eq_true rfl) h0)
theorem b190_64 {d : Nat} {S : mm_S} {a0 : Nat} {x1 : Int32} {x2 : Int32} {j3 : Int64} {x5 : Int32} (h0 : mm_rk S a0 = 12) : mm_ex (d + 1) 190 64 [.ref a0, .int x1, .int x2, .long j3, .null, .int x5, .null, .null] [] S =
    mm_bd (mm_cl d 189 [.ref a0, .int x2] S) (fun v S2 => mm_ex (d + 1) 190 149 [.ref a0, .int x1, .int x2, .long j3, .null, .int x5, .null, .null] (v.toList ++ []) S2) :=
  Eq.trans (mx_goto t190 d190_64 (tgt := 144) (by decide)) <|
  Eq.trans (mx_aload_n t190 d190_144 (x := a0) rfl) <|
  Eq.trans (mx_iload_n t190 d190_145 (x := x2) rfl) <|
  (mx_virt (st := []) (k := 12) t190 [.int x2] d190_146 vt12_360 rfl rfl (Nat.le_of_ble_eq_true rfl) (Nat.le_of_ble_eq_true rfl) h0)
theorem b190_67 {d : Nat} {S : mm_S} {a0 : Nat} {x1 : Int32} {x2 : Int32} {j3 : Int64} {x5 : Int32} (h0 : mm_obj S a0 12 = true) (h1 : (mm_R S a0 9).isSome = true) (h2 : mm_inb (nI 0) (mm_N S (mm_rg S a0 9)) = true) (h3 : mm_arr S (mm_rg S a0 9) 13 = true) : mm_ex d 190 67 [.ref a0, .int x1, .int x2, .long j3, .null, .int x5, .null, .null] [] S =
    if (mm_M S (mm_rg S a0 9) (nI 0).toNatClampNeg) = x1 then mm_ex d 190 95 [.ref a0, .int x1, .int x2, .long j3, .null, .int x5, .long ((j3 / 10) * ((mm_M S a0 14).toInt64)), .null] [.long (mm_L S a0 53), .ref a0] S else mm_ex d 190 102 [.ref a0, .int x1, .int x2, .long j3, .null, .int x5, .long ((j3 / 10) * ((mm_M S a0 14).toInt64)), .null] [.long (mm_L S a0 53), .ref a0] S :=
  Eq.trans (mx_lload_n t190 d190_67 (x := j3) rfl) <|
  Eq.trans (mx_ldc2_w t190 d190_68 (v := 10) l212_354) <|
  Eq.trans (mx_ldiv t190 d190_71 (by decide)) <|
  Eq.trans (mx_aload_n t190 d190_72 (x := a0) rfl) <|
  Eq.trans (mx_geti t190 d190_73 rfl fl12_340 h0) <|
  Eq.trans (mx_i2l t190 d190_76) <|
  Eq.trans (mx_lmul t190 d190_77) <|
  Eq.trans (mx_lstore t190 d190_78 (ls' := [.ref a0, .int x1, .int x2, .long j3, .null, .int x5, .long ((j3 / 10) * ((mm_M S a0 14).toInt64)), .null]) rfl rfl) <|
  Eq.trans (mx_aload_n t190 d190_80 (x := a0) rfl) <|
  Eq.trans (mx_dupr t190 d190_81) <|
  Eq.trans (mx_getj t190 d190_82 rfl fl12_356 h0) <|
  Eq.trans (mx_aload_n t190 d190_85 (x := a0) rfl) <|
  Eq.trans (mx_getR t190 d190_86 rfl fl12_33 h0 h1) <|
  Eq.trans (mx_iconst t190 d190_89 (v := nI 0) rfl) <|
  Eq.trans (mx_iald t190 d190_90 h3 h2) <|
  Eq.trans (mx_iload_n t190 d190_91 (x := x1) rfl) <|
  (mx_cne t190 d190_92 (tgt := 102) (by decide))
theorem b190_95 {d : Nat} {S : mm_S} {a0 : Nat} {x1 : Int32} {x2 : Int32} {j3 : Int64} {x5 : Int32} {j6 : Int64} {p0 : Int64} {p1 : Nat} (h0 : mm_obj S p1 12 = true) (h1 : mm_rk S a0 = 12) : mm_ex (d + 1) 190 95 [.ref a0, .int x1, .int x2, .long j3, .null, .int x5, .long j6, .null] [.long p0, .ref p1] S =
    mm_bd (mm_cl d 169 [.ref a0, .int (nI 1)] (mm_uL S p1 53 (p0 + (j3 - j6)))) (fun v S2 => mm_ex (d + 1) 190 112 [.ref a0, .int x1, .int x2, .long j3, .null, .int x5, .long j6, .null] (v.toList ++ []) S2) :=
  Eq.trans (mx_lload_n t190 d190_95 (x := j3) rfl) <|
  Eq.trans (mx_lload t190 d190_96 (x := j6) rfl) <|
  Eq.trans (mx_lsub t190 d190_98) <|
  Eq.trans (mx_goto t190 d190_99 (tgt := 103) (by decide)) <|
  Eq.trans (mx_ladd t190 d190_103) <|
  Eq.trans (mx_putj2 t190 d190_104 fl12_356 rfl h0) <|
  Eq.trans (mx_aload_n t190 d190_107 (x := a0) rfl) <|
  Eq.trans (mx_iconst t190 d190_108 (v := nI 1) rfl) <|
  (mx_virt (st := []) (k := 12) t190 [.int (nI 1)] d190_109 vt12_293 rfl rfl (Nat.le_of_ble_eq_true rfl) (Nat.le_of_ble_eq_true rfl) h1)
theorem b190_102 {d : Nat} {S : mm_S} {a0 : Nat} {x1 : Int32} {x2 : Int32} {j3 : Int64} {x5 : Int32} {j6 : Int64} {p0 : Int64} {p1 : Nat} (h0 : mm_obj S p1 12 = true) (h1 : mm_rk S a0 = 12) : mm_ex (d + 1) 190 102 [.ref a0, .int x1, .int x2, .long j3, .null, .int x5, .long j6, .null] [.long p0, .ref p1] S =
    mm_bd (mm_cl d 169 [.ref a0, .int (nI 1)] (mm_uL S p1 53 (p0 + 0))) (fun v S2 => mm_ex (d + 1) 190 112 [.ref a0, .int x1, .int x2, .long j3, .null, .int x5, .long j6, .null] (v.toList ++ []) S2) :=
  Eq.trans (mx_lconst t190 d190_102 (v := 0) rfl) <|
  Eq.trans (mx_ladd t190 d190_103) <|
  Eq.trans (mx_putj2 t190 d190_104 fl12_356 rfl h0) <|
  Eq.trans (mx_aload_n t190 d190_107 (x := a0) rfl) <|
  Eq.trans (mx_iconst t190 d190_108 (v := nI 1) rfl) <|
  (mx_virt (st := []) (k := 12) t190 [.int (nI 1)] d190_109 vt12_293 rfl rfl (Nat.le_of_ble_eq_true rfl) (Nat.le_of_ble_eq_true rfl) h1)
theorem b190_112 {d : Nat} {S : mm_S} {a0 : Nat} {x1 : Int32} {x2 : Int32} {j3 : Int64} {x5 : Int32} {j6 : Int64} (h0 : mm_rk S a0 = 12) : mm_ex (d + 1) 190 112 [.ref a0, .int x1, .int x2, .long j3, .null, .int x5, .long j6, .null] [] S =
    mm_bd (mm_cl d 190 [.ref a0, .int x1, .int (x2 + (nI 1)), .long (j3 - j6)] S) (fun v S2 => mm_ex (d + 1) 190 124 [.ref a0, .int x1, .int x2, .long j3, .null, .int x5, .long j6, .null] (v.toList ++ []) S2) :=
  Eq.trans (mx_aload_n t190 d190_112 (x := a0) rfl) <|
  Eq.trans (mx_iload_n t190 d190_113 (x := x1) rfl) <|
  Eq.trans (mx_iload_n t190 d190_114 (x := x2) rfl) <|
  Eq.trans (mx_iconst t190 d190_115 (v := nI 1) rfl) <|
  Eq.trans (mx_iadd t190 d190_116) <|
  Eq.trans (mx_lload_n t190 d190_117 (x := j3) rfl) <|
  Eq.trans (mx_lload t190 d190_118 (x := j6) rfl) <|
  Eq.trans (mx_lsub t190 d190_120) <|
  (mx_virt (st := []) (k := 12) t190 [.int x1, .int (x2 + (nI 1)), .long (j3 - j6)] d190_121 vt12_350 rfl rfl (Nat.le_of_ble_eq_true rfl) (Nat.le_of_ble_eq_true rfl) h0)
theorem b190_124 {d : Nat} {S : mm_S} {a0 : Nat} {x1 : Int32} {x2 : Int32} {j3 : Int64} {x5 : Int32} {j6 : Int64} (h0 : mm_rk S a0 = 12) : mm_ex (d + 1) 190 124 [.ref a0, .int x1, .int x2, .long j3, .null, .int x5, .long j6, .null] [] S =
    mm_bd (mm_cl d 189 [.ref a0, .int x2] S) (fun v S2 => mm_ex (d + 1) 190 129 [.ref a0, .int x1, .int x2, .long j3, .null, .int x5, .long j6, .null] (v.toList ++ []) S2) :=
  Eq.trans (mx_aload_n t190 d190_124 (x := a0) rfl) <|
  Eq.trans (mx_iload_n t190 d190_125 (x := x2) rfl) <|
  (mx_virt (st := []) (k := 12) t190 [.int x2] d190_126 vt12_360 rfl rfl (Nat.le_of_ble_eq_true rfl) (Nat.le_of_ble_eq_true rfl) h0)
theorem b190_129 {d : Nat} {S : mm_S} {a0 : Nat} {x1 : Int32} {x2 : Int32} {j3 : Int64} {x5 : Int32} {j6 : Int64} (h0 : mm_rk S a0 = 12) : mm_ex (d + 1) 190 129 [.ref a0, .int x1, .int x2, .long j3, .null, .int x5, .long j6, .null] [] S =
    mm_bd (mm_cl d 169 [.ref a0, .int (nI 2)] S) (fun v S2 => mm_ex (d + 1) 190 134 [.ref a0, .int x1, .int x2, .long j3, .null, .int x5, .long j6, .null] (v.toList ++ []) S2) :=
  Eq.trans (mx_aload_n t190 d190_129 (x := a0) rfl) <|
  Eq.trans (mx_iconst t190 d190_130 (v := nI 2) rfl) <|
  (mx_virt (st := []) (k := 12) t190 [.int (nI 2)] d190_131 vt12_293 rfl rfl (Nat.le_of_ble_eq_true rfl) (Nat.le_of_ble_eq_true rfl) h0)
theorem b190_134 {d : Nat} {S : mm_S} {a0 : Nat} {x1 : Int32} {x2 : Int32} {j3 : Int64} {x5 : Int32} {j6 : Int64} (h0 : mm_rk S a0 = 12) : mm_ex (d + 1) 190 134 [.ref a0, .int x1, .int x2, .long j3, .null, .int x5, .long j6, .null] [] S =
    mm_bd (mm_cl d 190 [.ref a0, .int x1, .int (x2 + (nI 1)), .long j6] S) (fun v S2 => mm_ex (d + 1) 190 144 [.ref a0, .int x1, .int x2, .long j3, .null, .int x5, .long j6, .null] (v.toList ++ []) S2) :=
  Eq.trans (mx_aload_n t190 d190_134 (x := a0) rfl) <|
  Eq.trans (mx_iload_n t190 d190_135 (x := x1) rfl) <|
  Eq.trans (mx_iload_n t190 d190_136 (x := x2) rfl) <|
  Eq.trans (mx_iconst t190 d190_137 (v := nI 1) rfl) <|
  Eq.trans (mx_iadd t190 d190_138) <|
  Eq.trans (mx_lload t190 d190_139 (x := j6) rfl) <|
  (mx_virt (st := []) (k := 12) t190 [.int x1, .int (x2 + (nI 1)), .long j6] d190_141 vt12_350 rfl rfl (Nat.le_of_ble_eq_true rfl) (Nat.le_of_ble_eq_true rfl) h0)
theorem b190_144 {d : Nat} {S : mm_S} {a0 : Nat} {x1 : Int32} {x2 : Int32} {j3 : Int64} {x5 : Int32} {j6 : Int64} (h0 : mm_rk S a0 = 12) : mm_ex (d + 1) 190 144 [.ref a0, .int x1, .int x2, .long j3, .null, .int x5, .long j6, .null] [] S =
    mm_bd (mm_cl d 189 [.ref a0, .int x2] S) (fun v S2 => mm_ex (d + 1) 190 149 [.ref a0, .int x1, .int x2, .long j3, .null, .int x5, .long j6, .null] (v.toList ++ []) S2) :=
  Eq.trans (mx_aload_n t190 d190_144 (x := a0) rfl) <|
  Eq.trans (mx_iload_n t190 d190_145 (x := x2) rfl) <|
  (mx_virt (st := []) (k := 12) t190 [.int x2] d190_146 vt12_360 rfl rfl (Nat.le_of_ble_eq_true rfl) (Nat.le_of_ble_eq_true rfl) h0)
theorem b190_149 {d : Nat} {S : mm_S} {a0 : Nat} {x1 : Int32} {x2 : Int32} {j3 : Int64} {x5 : Int32} {v6 : Value} : mm_ex d 190 149 [.ref a0, .int x1, .int x2, .long j3, .null, .int x5, v6, .null] [] S =
    some (none, S) :=
  (mx_vret t190 d190_149 rfl)
theorem e190 {d : Nat} {S : mm_S} {a0 : Nat} {x1 : Int32} {x2 : Int32} {j3 : Int64} : mm_cl d 190 [.ref a0, .int x1, .int x2, .long j3] S = mm_ex d 190 0 [.ref a0, .int x1, .int x2, .long j3, .null, .null, .null, .null] [] S := mm_cl_eq t190 (Nat.le_of_ble_eq_true rfl) rfl
/-! X12_sure -/
theorem dd191_0 : (decode prog_14_method_66_code 0 = .ok (.aload_n 0, 1)) ∧ (decode prog_14_method_66_code 1 = .ok (.iload_n 1, 1)) ∧ (decode prog_14_method_66_code 2 = .ok (.invokevirtual 169, 3)) ∧ (decode prog_14_method_66_code 5 = .ok (.ifCond .eq 12, 3)) ∧ (decode prog_14_method_66_code 8 = .ok (.iload_n 2, 1)) ∧ (decode prog_14_method_66_code 9 = .ok (.iconst 0, 1)) ∧ (decode prog_14_method_66_code 10 = .ok (.iconst 1, 1)) ∧ (decode prog_14_method_66_code 11 = .ok (.invokestatic 162, 3)) ∧ (decode prog_14_method_66_code 14 = .ok (.ifCond .ne 7, 3)) ∧ (decode prog_14_method_66_code 17 = .ok (.ldc2_w 329, 3)) ∧ (decode prog_14_method_66_code 20 = .ok (.lreturn, 1)) ∧ (decode prog_14_method_66_code 21 = .ok (.aload_n 0, 1)) ∧ (decode prog_14_method_66_code 22 = .ok (.lconst 0, 1)) ∧ (decode prog_14_method_66_code 23 = .ok (.putfield 356, 3)) ∧ (decode prog_14_method_66_code 26 = .ok (.aload_n 0, 1)) ∧ (decode prog_14_method_66_code 27 = .ok (.iconst 0, 1)) := by decide +kernel
theorem d191_0 : decode prog_14_method_66_code 0 = .ok (.aload_n 0, 1) := dd191_0.1
theorem d191_1 : decode prog_14_method_66_code 1 = .ok (.iload_n 1, 1) := dd191_0.2.1
theorem d191_2 : decode prog_14_method_66_code 2 = .ok (.invokevirtual 169, 3) := dd191_0.2.2.1
theorem d191_5 : decode prog_14_method_66_code 5 = .ok (.ifCond .eq 12, 3) := dd191_0.2.2.2.1
theorem d191_8 : decode prog_14_method_66_code 8 = .ok (.iload_n 2, 1) := dd191_0.2.2.2.2.1
theorem d191_9 : decode prog_14_method_66_code 9 = .ok (.iconst 0, 1) := dd191_0.2.2.2.2.2.1
theorem d191_10 : decode prog_14_method_66_code 10 = .ok (.iconst 1, 1) := dd191_0.2.2.2.2.2.2.1
theorem d191_11 : decode prog_14_method_66_code 11 = .ok (.invokestatic 162, 3) := dd191_0.2.2.2.2.2.2.2.1
theorem d191_14 : decode prog_14_method_66_code 14 = .ok (.ifCond .ne 7, 3) := dd191_0.2.2.2.2.2.2.2.2.1
theorem d191_17 : decode prog_14_method_66_code 17 = .ok (.ldc2_w 329, 3) := dd191_0.2.2.2.2.2.2.2.2.2.1
theorem d191_20 : decode prog_14_method_66_code 20 = .ok (.lreturn, 1) := dd191_0.2.2.2.2.2.2.2.2.2.2.1
theorem d191_21 : decode prog_14_method_66_code 21 = .ok (.aload_n 0, 1) := dd191_0.2.2.2.2.2.2.2.2.2.2.2.1
theorem d191_22 : decode prog_14_method_66_code 22 = .ok (.lconst 0, 1) := dd191_0.2.2.2.2.2.2.2.2.2.2.2.2.1
theorem d191_23 : decode prog_14_method_66_code 23 = .ok (.putfield 356, 3) := dd191_0.2.2.2.2.2.2.2.2.2.2.2.2.2.1
theorem d191_26 : decode prog_14_method_66_code 26 = .ok (.aload_n 0, 1) := dd191_0.2.2.2.2.2.2.2.2.2.2.2.2.2.2.1
theorem d191_27 : decode prog_14_method_66_code 27 = .ok (.iconst 0, 1) := dd191_0.2.2.2.2.2.2.2.2.2.2.2.2.2.2.2
theorem dd191_28 : (decode prog_14_method_66_code 28 = .ok (.putfield 343, 3)) ∧ (decode prog_14_method_66_code 31 = .ok (.aload_n 0, 1)) ∧ (decode prog_14_method_66_code 32 = .ok (.iload_n 1, 1)) ∧ (decode prog_14_method_66_code 33 = .ok (.iconst 0, 1)) ∧ (decode prog_14_method_66_code 34 = .ok (.ldc2_w 363, 3)) ∧ (decode prog_14_method_66_code 37 = .ok (.invokevirtual 350, 3)) ∧ (decode prog_14_method_66_code 40 = .ok (.aload_n 0, 1)) ∧ (decode prog_14_method_66_code 41 = .ok (.getfield 343, 3)) ∧ (decode prog_14_method_66_code 44 = .ok (.ifCond .eq 9, 3)) ∧ (decode prog_14_method_66_code 47 = .ok (.ldc2_w 329, 3)) ∧ (decode prog_14_method_66_code 50 = .ok (.goto 14, 3)) ∧ (decode prog_14_method_66_code 53 = .ok (.aload_n 0, 1)) ∧ (decode prog_14_method_66_code 54 = .ok (.getfield 356, 3)) ∧ (decode prog_14_method_66_code 57 = .ok (.ldc2_w 363, 3)) ∧ (decode prog_14_method_66_code 60 = .ok (.iload_n 2, 1)) ∧ (decode prog_14_method_66_code 61 = .ok (.invokestatic 331, 3)) := by decide +kernel
theorem d191_28 : decode prog_14_method_66_code 28 = .ok (.putfield 343, 3) := dd191_28.1
theorem d191_31 : decode prog_14_method_66_code 31 = .ok (.aload_n 0, 1) := dd191_28.2.1
theorem d191_32 : decode prog_14_method_66_code 32 = .ok (.iload_n 1, 1) := dd191_28.2.2.1
theorem d191_33 : decode prog_14_method_66_code 33 = .ok (.iconst 0, 1) := dd191_28.2.2.2.1
theorem d191_34 : decode prog_14_method_66_code 34 = .ok (.ldc2_w 363, 3) := dd191_28.2.2.2.2.1
theorem d191_37 : decode prog_14_method_66_code 37 = .ok (.invokevirtual 350, 3) := dd191_28.2.2.2.2.2.1
theorem d191_40 : decode prog_14_method_66_code 40 = .ok (.aload_n 0, 1) := dd191_28.2.2.2.2.2.2.1
theorem d191_41 : decode prog_14_method_66_code 41 = .ok (.getfield 343, 3) := dd191_28.2.2.2.2.2.2.2.1
theorem d191_44 : decode prog_14_method_66_code 44 = .ok (.ifCond .eq 9, 3) := dd191_28.2.2.2.2.2.2.2.2.1
theorem d191_47 : decode prog_14_method_66_code 47 = .ok (.ldc2_w 329, 3) := dd191_28.2.2.2.2.2.2.2.2.2.1
theorem d191_50 : decode prog_14_method_66_code 50 = .ok (.goto 14, 3) := dd191_28.2.2.2.2.2.2.2.2.2.2.1
theorem d191_53 : decode prog_14_method_66_code 53 = .ok (.aload_n 0, 1) := dd191_28.2.2.2.2.2.2.2.2.2.2.2.1
theorem d191_54 : decode prog_14_method_66_code 54 = .ok (.getfield 356, 3) := dd191_28.2.2.2.2.2.2.2.2.2.2.2.2.1
theorem d191_57 : decode prog_14_method_66_code 57 = .ok (.ldc2_w 363, 3) := dd191_28.2.2.2.2.2.2.2.2.2.2.2.2.2.1
theorem d191_60 : decode prog_14_method_66_code 60 = .ok (.iload_n 2, 1) := dd191_28.2.2.2.2.2.2.2.2.2.2.2.2.2.2.1
theorem d191_61 : decode prog_14_method_66_code 61 = .ok (.invokestatic 331, 3) := dd191_28.2.2.2.2.2.2.2.2.2.2.2.2.2.2.2
theorem d191_64 : decode prog_14_method_66_code 64 = .ok (.lreturn, 1) := by decide +kernel
theorem b191_0 {d : Nat} {S : mm_S} {a0 : Nat} {x1 : Int32} {x2 : Int32} (h0 : mm_rk S a0 = 12) : mm_ex (d + 1) 191 0 [.ref a0, .int x1, .int x2] [] S =
    mm_bd (mm_cl d 129 [.ref a0, .int x1] S) (fun v S2 => mm_ex (d + 1) 191 5 [.ref a0, .int x1, .int x2] (v.toList ++ []) S2) :=
  Eq.trans (mx_aload_n t191 d191_0 (x := a0) rfl) <|
  Eq.trans (mx_iload_n t191 d191_1 (x := x1) rfl) <|
  (mx_virt (st := []) (k := 12) t191 [.int x1] d191_2 vt12_169 rfl rfl (Nat.le_of_ble_eq_true rfl) (Nat.le_of_ble_eq_true rfl) h0)
theorem b191_5 {d : Nat} {S : mm_S} {a0 : Nat} {x1 : Int32} {x2 : Int32} {p0 : Int32} : mm_ex d 191 5 [.ref a0, .int x1, .int x2] [.int p0] S =
    if p0 = nI 0 then mm_ex d 191 17 [.ref a0, .int x1, .int x2] [] S else mm_ex d 191 8 [.ref a0, .int x1, .int x2] [] S :=
  (mx_ieq t191 d191_5 (tgt := 17) (by decide))
theorem b191_8 {d : Nat} {S : mm_S} {a0 : Nat} {x1 : Int32} {x2 : Int32} : mm_ex (d + 1) 191 8 [.ref a0, .int x1, .int x2] [] S =
    mm_bd (mm_cl d 128 [.int x2, .int (nI 0), .int (nI 1)] S) (fun v S2 => mm_ex (d + 1) 191 14 [.ref a0, .int x1, .int x2] (v.toList ++ []) S2) :=
  Eq.trans (mx_iload_n t191 d191_8 (x := x2) rfl) <|
  Eq.trans (mx_iconst t191 d191_9 (v := nI 0) rfl) <|
  Eq.trans (mx_iconst t191 d191_10 (v := nI 1) rfl) <|
  (mx_stat (st := []) t191 [.int x2, .int (nI 0), .int (nI 1)] d191_11 acn12_162 mxn12_162 st12_162 rfl (Nat.le_of_ble_eq_true rfl) (Nat.le_of_ble_eq_true rfl))
theorem b191_14 {d : Nat} {S : mm_S} {a0 : Nat} {x1 : Int32} {x2 : Int32} {p0 : Int32} : mm_ex d 191 14 [.ref a0, .int x1, .int x2] [.int p0] S =
    if p0 = nI 0 then mm_ex d 191 17 [.ref a0, .int x1, .int x2] [] S else mm_ex d 191 21 [.ref a0, .int x1, .int x2] [] S :=
  (mx_ine t191 d191_14 (tgt := 21) (by decide))
theorem b191_17 {d : Nat} {S : mm_S} {a0 : Nat} {x1 : Int32} {x2 : Int32} : mm_ex d 191 17 [.ref a0, .int x1, .int x2] [] S =
    some (some (.long (-9223372036854775808)), S) :=
  Eq.trans (mx_ldc2_w t191 d191_17 (v := -9223372036854775808) l212_329) <|
  (mx_lret t191 d191_20 rfl)
theorem b191_21 {d : Nat} {S : mm_S} {a0 : Nat} {x1 : Int32} {x2 : Int32} (h0 : mm_obj S a0 12 = true) (h1 : mm_rk S a0 = 12) : mm_ex (d + 1) 191 21 [.ref a0, .int x1, .int x2] [] S =
    mm_bd (mm_cl d 190 [.ref a0, .int x1, .int (nI 0), .long 1000000000000] (mm_uM (mm_uL S a0 53 0) a0 54 (nI 0))) (fun v S2 => mm_ex (d + 1) 191 40 [.ref a0, .int x1, .int x2] (v.toList ++ []) S2) :=
  Eq.trans (mx_aload_n t191 d191_21 (x := a0) rfl) <|
  Eq.trans (mx_lconst t191 d191_22 (v := 0) rfl) <|
  Eq.trans (mx_putj2 t191 d191_23 fl12_356 rfl h0) <|
  Eq.trans (mx_aload_n t191 d191_26 (x := a0) rfl) <|
  Eq.trans (mx_iconst t191 d191_27 (v := nI 0) rfl) <|
  Eq.trans (mx_putz2 t191 d191_28 fl12_343 rfl h0 (Or.inl rfl)) <|
  Eq.trans (mx_aload_n t191 d191_31 (x := a0) rfl) <|
  Eq.trans (mx_iload_n t191 d191_32 (x := x1) rfl) <|
  Eq.trans (mx_iconst t191 d191_33 (v := nI 0) rfl) <|
  Eq.trans (mx_ldc2_w t191 d191_34 (v := 1000000000000) l212_363) <|
  (mx_virt (st := []) (k := 12) t191 [.int x1, .int (nI 0), .long 1000000000000] d191_37 vt12_350 rfl rfl (Nat.le_of_ble_eq_true rfl) (Nat.le_of_ble_eq_true rfl) h1)
theorem b191_40 {d : Nat} {S : mm_S} {a0 : Nat} {x1 : Int32} {x2 : Int32} (h0 : mm_obj S a0 12 = true) : mm_ex d 191 40 [.ref a0, .int x1, .int x2] [] S =
    if (mm_M S a0 54) = nI 0 then mm_ex d 191 53 [.ref a0, .int x1, .int x2] [] S else mm_ex d 191 47 [.ref a0, .int x1, .int x2] [] S :=
  Eq.trans (mx_aload_n t191 d191_40 (x := a0) rfl) <|
  Eq.trans (mx_getz t191 d191_41 rfl fl12_343 h0) <|
  (mx_ieq t191 d191_44 (tgt := 53) (by decide))
theorem b191_47 {d : Nat} {S : mm_S} {a0 : Nat} {x1 : Int32} {x2 : Int32} : mm_ex d 191 47 [.ref a0, .int x1, .int x2] [] S =
    some (some (.long (-9223372036854775808)), S) :=
  Eq.trans (mx_ldc2_w t191 d191_47 (v := -9223372036854775808) l212_329) <|
  Eq.trans (mx_goto t191 d191_50 (tgt := 64) (by decide)) <|
  (mx_lret t191 d191_64 rfl)
theorem b191_53 {d : Nat} {S : mm_S} {a0 : Nat} {x1 : Int32} {x2 : Int32} (h0 : mm_obj S a0 12 = true) : mm_ex (d + 1) 191 53 [.ref a0, .int x1, .int x2] [] S =
    mm_bd (mm_cl d 181 [.long (mm_L S a0 53), .long 1000000000000, .int x2] S) (fun v S2 => mm_ex (d + 1) 191 64 [.ref a0, .int x1, .int x2] (v.toList ++ []) S2) :=
  Eq.trans (mx_aload_n t191 d191_53 (x := a0) rfl) <|
  Eq.trans (mx_getj t191 d191_54 rfl fl12_356 h0) <|
  Eq.trans (mx_ldc2_w t191 d191_57 (v := 1000000000000) l212_363) <|
  Eq.trans (mx_iload_n t191 d191_60 (x := x2) rfl) <|
  (mx_stat (st := []) t191 [.long (mm_L S a0 53), .long 1000000000000, .int x2] d191_61 acn12_331 mxn12_331 st12_331 rfl (Nat.le_of_ble_eq_true rfl) (Nat.le_of_ble_eq_true rfl))
theorem b191_64 {d : Nat} {S : mm_S} {a0 : Nat} {x1 : Int32} {x2 : Int32} {p0 : Int64} : mm_ex d 191 64 [.ref a0, .int x1, .int x2] [.long p0] S =
    some (some (.long p0), S) :=
  (mx_lret t191 d191_64 rfl)
theorem e191 {d : Nat} {S : mm_S} {a0 : Nat} {x1 : Int32} {x2 : Int32} : mm_cl d 191 [.ref a0, .int x1, .int x2] S = mm_ex d 191 0 [.ref a0, .int x1, .int x2] [] S := mm_cl_eq t191 (Nat.le_of_ble_eq_true rfl) rfl
/-! X12_film -/
theorem dd192_0 : (decode prog_14_method_67_code 0 = .ok (.iload_n 1, 1)) ∧ (decode prog_14_method_67_code 1 = .ok (.iconst (-1), 1)) ∧ (decode prog_14_method_67_code 2 = .ok (.if_icmp .ne 10, 3)) ∧ (decode prog_14_method_67_code 5 = .ok (.aload_n 0, 1)) ∧ (decode prog_14_method_67_code 6 = .ok (.iconst 0, 1)) ∧ (decode prog_14_method_67_code 7 = .ok (.putfield 365, 3)) ∧ (decode prog_14_method_67_code 10 = .ok (.iconst 0, 1)) ∧ (decode prog_14_method_67_code 11 = .ok (.ireturn, 1)) ∧ (decode prog_14_method_67_code 12 = .ok (.iload_n 1, 1)) ∧ (decode prog_14_method_67_code 13 = .ok (.iconst 1, 1)) ∧ (decode prog_14_method_67_code 14 = .ok (.iconst 3, 1)) ∧ (decode prog_14_method_67_code 15 = .ok (.invokestatic 162, 3)) ∧ (decode prog_14_method_67_code 18 = .ok (.ifCond .ne 5, 3)) ∧ (decode prog_14_method_67_code 21 = .ok (.iconst (-1), 1)) ∧ (decode prog_14_method_67_code 22 = .ok (.ireturn, 1)) ∧ (decode prog_14_method_67_code 23 = .ok (.aload_n 0, 1)) := by decide +kernel
theorem d192_0 : decode prog_14_method_67_code 0 = .ok (.iload_n 1, 1) := dd192_0.1
theorem d192_1 : decode prog_14_method_67_code 1 = .ok (.iconst (-1), 1) := dd192_0.2.1
theorem d192_2 : decode prog_14_method_67_code 2 = .ok (.if_icmp .ne 10, 3) := dd192_0.2.2.1
theorem d192_5 : decode prog_14_method_67_code 5 = .ok (.aload_n 0, 1) := dd192_0.2.2.2.1
theorem d192_6 : decode prog_14_method_67_code 6 = .ok (.iconst 0, 1) := dd192_0.2.2.2.2.1
theorem d192_7 : decode prog_14_method_67_code 7 = .ok (.putfield 365, 3) := dd192_0.2.2.2.2.2.1
theorem d192_10 : decode prog_14_method_67_code 10 = .ok (.iconst 0, 1) := dd192_0.2.2.2.2.2.2.1
theorem d192_11 : decode prog_14_method_67_code 11 = .ok (.ireturn, 1) := dd192_0.2.2.2.2.2.2.2.1
theorem d192_12 : decode prog_14_method_67_code 12 = .ok (.iload_n 1, 1) := dd192_0.2.2.2.2.2.2.2.2.1
theorem d192_13 : decode prog_14_method_67_code 13 = .ok (.iconst 1, 1) := dd192_0.2.2.2.2.2.2.2.2.2.1
theorem d192_14 : decode prog_14_method_67_code 14 = .ok (.iconst 3, 1) := dd192_0.2.2.2.2.2.2.2.2.2.2.1
theorem d192_15 : decode prog_14_method_67_code 15 = .ok (.invokestatic 162, 3) := dd192_0.2.2.2.2.2.2.2.2.2.2.2.1
theorem d192_18 : decode prog_14_method_67_code 18 = .ok (.ifCond .ne 5, 3) := dd192_0.2.2.2.2.2.2.2.2.2.2.2.2.1
theorem d192_21 : decode prog_14_method_67_code 21 = .ok (.iconst (-1), 1) := dd192_0.2.2.2.2.2.2.2.2.2.2.2.2.2.1
theorem d192_22 : decode prog_14_method_67_code 22 = .ok (.ireturn, 1) := dd192_0.2.2.2.2.2.2.2.2.2.2.2.2.2.2.1
theorem d192_23 : decode prog_14_method_67_code 23 = .ok (.aload_n 0, 1) := dd192_0.2.2.2.2.2.2.2.2.2.2.2.2.2.2.2
theorem dd192_24 : (decode prog_14_method_67_code 24 = .ok (.getfield 365, 3)) ∧ (decode prog_14_method_67_code 27 = .ok (.bipush 12, 2)) ∧ (decode prog_14_method_67_code 29 = .ok (.if_icmp .ne 6, 3)) ∧ (decode prog_14_method_67_code 32 = .ok (.bipush (-4), 2)) ∧ (decode prog_14_method_67_code 34 = .ok (.ireturn, 1)) ∧ (decode prog_14_method_67_code 35 = .ok (.aload_n 0, 1)) ∧ (decode prog_14_method_67_code 36 = .ok (.getfield 43, 3)) ∧ (decode prog_14_method_67_code 39 = .ok (.aload_n 0, 1)) ∧ (decode prog_14_method_67_code 40 = .ok (.getfield 365, 3)) ∧ (decode prog_14_method_67_code 43 = .ok (.iload_n 1, 1)) ∧ (decode prog_14_method_67_code 44 = .ok (.iastore, 1)) ∧ (decode prog_14_method_67_code 45 = .ok (.aload_n 0, 1)) ∧ (decode prog_14_method_67_code 46 = .ok (.dup, 1)) ∧ (decode prog_14_method_67_code 47 = .ok (.getfield 365, 3)) ∧ (decode prog_14_method_67_code 50 = .ok (.iconst 1, 1)) ∧ (decode prog_14_method_67_code 51 = .ok (.iadd, 1)) := by decide +kernel
theorem d192_24 : decode prog_14_method_67_code 24 = .ok (.getfield 365, 3) := dd192_24.1
theorem d192_27 : decode prog_14_method_67_code 27 = .ok (.bipush 12, 2) := dd192_24.2.1
theorem d192_29 : decode prog_14_method_67_code 29 = .ok (.if_icmp .ne 6, 3) := dd192_24.2.2.1
theorem d192_32 : decode prog_14_method_67_code 32 = .ok (.bipush (-4), 2) := dd192_24.2.2.2.1
theorem d192_34 : decode prog_14_method_67_code 34 = .ok (.ireturn, 1) := dd192_24.2.2.2.2.1
theorem d192_35 : decode prog_14_method_67_code 35 = .ok (.aload_n 0, 1) := dd192_24.2.2.2.2.2.1
theorem d192_36 : decode prog_14_method_67_code 36 = .ok (.getfield 43, 3) := dd192_24.2.2.2.2.2.2.1
theorem d192_39 : decode prog_14_method_67_code 39 = .ok (.aload_n 0, 1) := dd192_24.2.2.2.2.2.2.2.1
theorem d192_40 : decode prog_14_method_67_code 40 = .ok (.getfield 365, 3) := dd192_24.2.2.2.2.2.2.2.2.1
theorem d192_43 : decode prog_14_method_67_code 43 = .ok (.iload_n 1, 1) := dd192_24.2.2.2.2.2.2.2.2.2.1
theorem d192_44 : decode prog_14_method_67_code 44 = .ok (.iastore, 1) := dd192_24.2.2.2.2.2.2.2.2.2.2.1
theorem d192_45 : decode prog_14_method_67_code 45 = .ok (.aload_n 0, 1) := dd192_24.2.2.2.2.2.2.2.2.2.2.2.1
theorem d192_46 : decode prog_14_method_67_code 46 = .ok (.dup, 1) := dd192_24.2.2.2.2.2.2.2.2.2.2.2.2.1
theorem d192_47 : decode prog_14_method_67_code 47 = .ok (.getfield 365, 3) := dd192_24.2.2.2.2.2.2.2.2.2.2.2.2.2.1
theorem d192_50 : decode prog_14_method_67_code 50 = .ok (.iconst 1, 1) := dd192_24.2.2.2.2.2.2.2.2.2.2.2.2.2.2.1
theorem d192_51 : decode prog_14_method_67_code 51 = .ok (.iadd, 1) := dd192_24.2.2.2.2.2.2.2.2.2.2.2.2.2.2.2
theorem dd192_52 : (decode prog_14_method_67_code 52 = .ok (.putfield 365, 3)) ∧ (decode prog_14_method_67_code 55 = .ok (.aload_n 0, 1)) ∧ (decode prog_14_method_67_code 56 = .ok (.getfield 365, 3)) ∧ (decode prog_14_method_67_code 59 = .ok (.ireturn, 1)) := by decide +kernel
theorem d192_52 : decode prog_14_method_67_code 52 = .ok (.putfield 365, 3) := dd192_52.1
theorem d192_55 : decode prog_14_method_67_code 55 = .ok (.aload_n 0, 1) := dd192_52.2.1
theorem d192_56 : decode prog_14_method_67_code 56 = .ok (.getfield 365, 3) := dd192_52.2.2.1
theorem d192_59 : decode prog_14_method_67_code 59 = .ok (.ireturn, 1) := dd192_52.2.2.2
theorem b192_0 {d : Nat} {S : mm_S} {a0 : Nat} {x1 : Int32} : mm_ex d 192 0 [.ref a0, .int x1] [] S =
    if x1 = (-1) then mm_ex d 192 5 [.ref a0, .int x1] [] S else mm_ex d 192 12 [.ref a0, .int x1] [] S :=
  Eq.trans (mx_iload_n t192 d192_0 (x := x1) rfl) <|
  Eq.trans (mx_iconst t192 d192_1 (v := -1) rfl) <|
  (mx_cne t192 d192_2 (tgt := 12) (by decide))
theorem b192_5 {d : Nat} {S : mm_S} {a0 : Nat} {x1 : Int32} (h0 : mm_obj S a0 12 = true) : mm_ex d 192 5 [.ref a0, .int x1] [] S =
    some (some (.int (nI 0)), (mm_uM S a0 15 (nI 0))) :=
  Eq.trans (mx_aload_n t192 d192_5 (x := a0) rfl) <|
  Eq.trans (mx_iconst t192 d192_6 (v := nI 0) rfl) <|
  Eq.trans (mx_puti2 t192 d192_7 fl12_365 rfl h0) <|
  Eq.trans (mx_iconst t192 d192_10 (v := nI 0) rfl) <|
  (mx_iret t192 d192_11 (ty := .int) rfl rfl (fun h => nomatch h))
theorem b192_12 {d : Nat} {S : mm_S} {a0 : Nat} {x1 : Int32} : mm_ex (d + 1) 192 12 [.ref a0, .int x1] [] S =
    mm_bd (mm_cl d 128 [.int x1, .int (nI 1), .int (nI 3)] S) (fun v S2 => mm_ex (d + 1) 192 18 [.ref a0, .int x1] (v.toList ++ []) S2) :=
  Eq.trans (mx_iload_n t192 d192_12 (x := x1) rfl) <|
  Eq.trans (mx_iconst t192 d192_13 (v := nI 1) rfl) <|
  Eq.trans (mx_iconst t192 d192_14 (v := nI 3) rfl) <|
  (mx_stat (st := []) t192 [.int x1, .int (nI 1), .int (nI 3)] d192_15 acn12_162 mxn12_162 st12_162 rfl (Nat.le_of_ble_eq_true rfl) (Nat.le_of_ble_eq_true rfl))
theorem b192_18 {d : Nat} {S : mm_S} {a0 : Nat} {x1 : Int32} {p0 : Int32} : mm_ex d 192 18 [.ref a0, .int x1] [.int p0] S =
    if p0 = nI 0 then mm_ex d 192 21 [.ref a0, .int x1] [] S else mm_ex d 192 23 [.ref a0, .int x1] [] S :=
  (mx_ine t192 d192_18 (tgt := 23) (by decide))
theorem b192_21 {d : Nat} {S : mm_S} {a0 : Nat} {x1 : Int32} : mm_ex d 192 21 [.ref a0, .int x1] [] S =
    some (some (.int (-1)), S) :=
  Eq.trans (mx_iconst t192 d192_21 (v := -1) rfl) <|
  (mx_iret t192 d192_22 (ty := .int) rfl rfl (fun h => nomatch h))
theorem b192_23 {d : Nat} {S : mm_S} {a0 : Nat} {x1 : Int32} (h0 : mm_obj S a0 12 = true) : mm_ex d 192 23 [.ref a0, .int x1] [] S =
    if (mm_M S a0 15) = (nI 12) then mm_ex d 192 32 [.ref a0, .int x1] [] S else mm_ex d 192 35 [.ref a0, .int x1] [] S :=
  Eq.trans (mx_aload_n t192 d192_23 (x := a0) rfl) <|
  Eq.trans (mx_geti t192 d192_24 rfl fl12_365 h0) <|
  Eq.trans (mx_bipush t192 d192_27 (v := nI 12) rfl) <|
  (mx_cne t192 d192_29 (tgt := 35) (by decide))
theorem b192_32 {d : Nat} {S : mm_S} {a0 : Nat} {x1 : Int32} : mm_ex d 192 32 [.ref a0, .int x1] [] S =
    some (some (.int (-4)), S) :=
  Eq.trans (mx_bipush t192 d192_32 (v := -4) rfl) <|
  (mx_iret t192 d192_34 (ty := .int) rfl rfl (fun h => nomatch h))
theorem b192_35 {d : Nat} {S : mm_S} {a0 : Nat} {x1 : Int32} (h0 : mm_obj S a0 12 = true) (h1 : (mm_R S a0 16).isSome = true) (h2 : mm_arr S (mm_rg S a0 16) 13 = true) (h3 : mm_inb (mm_M S a0 15) (mm_N S (mm_rg S a0 16)) = true) : mm_ex d 192 35 [.ref a0, .int x1] [] S =
    mm_ex d 192 47 [.ref a0, .int x1] [.ref a0, .ref a0] (mm_uM S (mm_rg S a0 16) (mm_M S a0 15).toNatClampNeg x1) :=
  Eq.trans (mx_aload_n t192 d192_35 (x := a0) rfl) <|
  Eq.trans (mx_getR t192 d192_36 rfl fl12_43 h0 h1) <|
  Eq.trans (mx_aload_n t192 d192_39 (x := a0) rfl) <|
  Eq.trans (mx_geti t192 d192_40 rfl fl12_365 h0) <|
  Eq.trans (mx_iload_n t192 d192_43 (x := x1) rfl) <|
  Eq.trans (mx_iast2 t192 d192_44 h2 h3) <|
  Eq.trans (mx_aload_n t192 d192_45 (x := a0) rfl) <|
  (mx_dupr t192 d192_46)
theorem b192_47 {d : Nat} {S : mm_S} {a0 : Nat} {x1 : Int32} {p0 : Nat} {p1 : Nat} (h0 : mm_obj S p0 12 = true) (h1 : mm_obj S p1 12 = true) : mm_ex d 192 47 [.ref a0, .int x1] [.ref p0, .ref p1] S =
    mm_ex d 192 56 [.ref a0, .int x1] [.ref a0] (mm_uM S p1 15 ((mm_M S p0 15) + (nI 1))) :=
  Eq.trans (mx_geti t192 d192_47 rfl fl12_365 h0) <|
  Eq.trans (mx_iconst t192 d192_50 (v := nI 1) rfl) <|
  Eq.trans (mx_iadd t192 d192_51) <|
  Eq.trans (mx_puti2 t192 d192_52 fl12_365 rfl h1) <|
  (mx_aload_n t192 d192_55 (x := a0) rfl)
theorem b192_56 {d : Nat} {S : mm_S} {a0 : Nat} {x1 : Int32} {p0 : Nat} (h0 : mm_obj S p0 12 = true) : mm_ex d 192 56 [.ref a0, .int x1] [.ref p0] S =
    some (some (.int (mm_M S p0 15)), S) :=
  Eq.trans (mx_geti t192 d192_56 rfl fl12_365 h0) <|
  (mx_iret t192 d192_59 (ty := .int) rfl rfl (fun h => nomatch h))
theorem e192 {d : Nat} {S : mm_S} {a0 : Nat} {x1 : Int32} : mm_cl d 192 [.ref a0, .int x1] S = mm_ex d 192 0 [.ref a0, .int x1] [] S := mm_cl_eq t192 (Nat.le_of_ble_eq_true rfl) rfl
/-! X12_off -/
theorem dd193_0 : (decode prog_14_method_68_code 0 = .ok (.aload_n 0, 1)) ∧ (decode prog_14_method_68_code 1 = .ok (.invokevirtual 311, 3)) ∧ (decode prog_14_method_68_code 4 = .ok (.bipush (-5), 2)) ∧ (decode prog_14_method_68_code 6 = .ok (.istore_n 1, 1)) ∧ (decode prog_14_method_68_code 7 = .ok (.iconst 0, 1)) ∧ (decode prog_14_method_68_code 8 = .ok (.istore_n 2, 1)) ∧ (decode prog_14_method_68_code 9 = .ok (.iload_n 2, 1)) ∧ (decode prog_14_method_68_code 10 = .ok (.aload_n 0, 1)) ∧ (decode prog_14_method_68_code 11 = .ok (.getfield 365, 3)) ∧ (decode prog_14_method_68_code 14 = .ok (.if_icmp .ge 57, 3)) ∧ (decode prog_14_method_68_code 17 = .ok (.iload_n 1, 1)) ∧ (decode prog_14_method_68_code 18 = .ok (.bipush (-5), 2)) ∧ (decode prog_14_method_68_code 20 = .ok (.if_icmp .ne 51, 3)) ∧ (decode prog_14_method_68_code 23 = .ok (.aload_n 0, 1)) ∧ (decode prog_14_method_68_code 24 = .ok (.invokevirtual 290, 3)) ∧ (decode prog_14_method_68_code 27 = .ok (.ifCond .eq 16, 3)) := by decide +kernel
theorem d193_0 : decode prog_14_method_68_code 0 = .ok (.aload_n 0, 1) := dd193_0.1
theorem d193_1 : decode prog_14_method_68_code 1 = .ok (.invokevirtual 311, 3) := dd193_0.2.1
theorem d193_4 : decode prog_14_method_68_code 4 = .ok (.bipush (-5), 2) := dd193_0.2.2.1
theorem d193_6 : decode prog_14_method_68_code 6 = .ok (.istore_n 1, 1) := dd193_0.2.2.2.1
theorem d193_7 : decode prog_14_method_68_code 7 = .ok (.iconst 0, 1) := dd193_0.2.2.2.2.1
theorem d193_8 : decode prog_14_method_68_code 8 = .ok (.istore_n 2, 1) := dd193_0.2.2.2.2.2.1
theorem d193_9 : decode prog_14_method_68_code 9 = .ok (.iload_n 2, 1) := dd193_0.2.2.2.2.2.2.1
theorem d193_10 : decode prog_14_method_68_code 10 = .ok (.aload_n 0, 1) := dd193_0.2.2.2.2.2.2.2.1
theorem d193_11 : decode prog_14_method_68_code 11 = .ok (.getfield 365, 3) := dd193_0.2.2.2.2.2.2.2.2.1
theorem d193_14 : decode prog_14_method_68_code 14 = .ok (.if_icmp .ge 57, 3) := dd193_0.2.2.2.2.2.2.2.2.2.1
theorem d193_17 : decode prog_14_method_68_code 17 = .ok (.iload_n 1, 1) := dd193_0.2.2.2.2.2.2.2.2.2.2.1
theorem d193_18 : decode prog_14_method_68_code 18 = .ok (.bipush (-5), 2) := dd193_0.2.2.2.2.2.2.2.2.2.2.2.1
theorem d193_20 : decode prog_14_method_68_code 20 = .ok (.if_icmp .ne 51, 3) := dd193_0.2.2.2.2.2.2.2.2.2.2.2.2.1
theorem d193_23 : decode prog_14_method_68_code 23 = .ok (.aload_n 0, 1) := dd193_0.2.2.2.2.2.2.2.2.2.2.2.2.2.1
theorem d193_24 : decode prog_14_method_68_code 24 = .ok (.invokevirtual 290, 3) := dd193_0.2.2.2.2.2.2.2.2.2.2.2.2.2.2.1
theorem d193_27 : decode prog_14_method_68_code 27 = .ok (.ifCond .eq 16, 3) := dd193_0.2.2.2.2.2.2.2.2.2.2.2.2.2.2.2
theorem dd193_30 : (decode prog_14_method_68_code 30 = .ok (.aload_n 0, 1)) ∧ (decode prog_14_method_68_code 31 = .ok (.aload_n 0, 1)) ∧ (decode prog_14_method_68_code 32 = .ok (.getfield 33, 3)) ∧ (decode prog_14_method_68_code 35 = .ok (.iconst 0, 1)) ∧ (decode prog_14_method_68_code 36 = .ok (.iaload, 1)) ∧ (decode prog_14_method_68_code 37 = .ok (.invokevirtual 281, 3)) ∧ (decode prog_14_method_68_code 40 = .ok (.goto 4, 3)) ∧ (decode prog_14_method_68_code 43 = .ok (.iconst 0, 1)) ∧ (decode prog_14_method_68_code 44 = .ok (.istore_n 3, 1)) ∧ (decode prog_14_method_68_code 45 = .ok (.iload_n 3, 1)) ∧ (decode prog_14_method_68_code 46 = .ok (.aload_n 0, 1)) ∧ (decode prog_14_method_68_code 47 = .ok (.getfield 43, 3)) ∧ (decode prog_14_method_68_code 50 = .ok (.iload_n 2, 1)) ∧ (decode prog_14_method_68_code 51 = .ok (.iaload, 1)) ∧ (decode prog_14_method_68_code 52 = .ok (.if_icmp .ne 11, 3)) ∧ (decode prog_14_method_68_code 55 = .ok (.aload_n 0, 1)) := by decide +kernel
theorem d193_30 : decode prog_14_method_68_code 30 = .ok (.aload_n 0, 1) := dd193_30.1
theorem d193_31 : decode prog_14_method_68_code 31 = .ok (.aload_n 0, 1) := dd193_30.2.1
theorem d193_32 : decode prog_14_method_68_code 32 = .ok (.getfield 33, 3) := dd193_30.2.2.1
theorem d193_35 : decode prog_14_method_68_code 35 = .ok (.iconst 0, 1) := dd193_30.2.2.2.1
theorem d193_36 : decode prog_14_method_68_code 36 = .ok (.iaload, 1) := dd193_30.2.2.2.2.1
theorem d193_37 : decode prog_14_method_68_code 37 = .ok (.invokevirtual 281, 3) := dd193_30.2.2.2.2.2.1
theorem d193_40 : decode prog_14_method_68_code 40 = .ok (.goto 4, 3) := dd193_30.2.2.2.2.2.2.1
theorem d193_43 : decode prog_14_method_68_code 43 = .ok (.iconst 0, 1) := dd193_30.2.2.2.2.2.2.2.1
theorem d193_44 : decode prog_14_method_68_code 44 = .ok (.istore_n 3, 1) := dd193_30.2.2.2.2.2.2.2.2.1
theorem d193_45 : decode prog_14_method_68_code 45 = .ok (.iload_n 3, 1) := dd193_30.2.2.2.2.2.2.2.2.2.1
theorem d193_46 : decode prog_14_method_68_code 46 = .ok (.aload_n 0, 1) := dd193_30.2.2.2.2.2.2.2.2.2.2.1
theorem d193_47 : decode prog_14_method_68_code 47 = .ok (.getfield 43, 3) := dd193_30.2.2.2.2.2.2.2.2.2.2.2.1
theorem d193_50 : decode prog_14_method_68_code 50 = .ok (.iload_n 2, 1) := dd193_30.2.2.2.2.2.2.2.2.2.2.2.2.1
theorem d193_51 : decode prog_14_method_68_code 51 = .ok (.iaload, 1) := dd193_30.2.2.2.2.2.2.2.2.2.2.2.2.2.1
theorem d193_52 : decode prog_14_method_68_code 52 = .ok (.if_icmp .ne 11, 3) := dd193_30.2.2.2.2.2.2.2.2.2.2.2.2.2.2.1
theorem d193_55 : decode prog_14_method_68_code 55 = .ok (.aload_n 0, 1) := dd193_30.2.2.2.2.2.2.2.2.2.2.2.2.2.2.2
theorem dd193_56 : (decode prog_14_method_68_code 56 = .ok (.iload_n 3, 1)) ∧ (decode prog_14_method_68_code 57 = .ok (.invokevirtual 293, 3)) ∧ (decode prog_14_method_68_code 60 = .ok (.goto 5, 3)) ∧ (decode prog_14_method_68_code 63 = .ok (.iload_n 2, 1)) ∧ (decode prog_14_method_68_code 64 = .ok (.istore_n 1, 1)) ∧ (decode prog_14_method_68_code 65 = .ok (.iinc 2 1, 3)) ∧ (decode prog_14_method_68_code 68 = .ok (.goto (-59), 3)) ∧ (decode prog_14_method_68_code 71 = .ok (.aload_n 0, 1)) ∧ (decode prog_14_method_68_code 72 = .ok (.invokevirtual 317, 3)) ∧ (decode prog_14_method_68_code 75 = .ok (.iload_n 1, 1)) ∧ (decode prog_14_method_68_code 76 = .ok (.ireturn, 1)) := by decide +kernel
theorem d193_56 : decode prog_14_method_68_code 56 = .ok (.iload_n 3, 1) := dd193_56.1
theorem d193_57 : decode prog_14_method_68_code 57 = .ok (.invokevirtual 293, 3) := dd193_56.2.1
theorem d193_60 : decode prog_14_method_68_code 60 = .ok (.goto 5, 3) := dd193_56.2.2.1
theorem d193_63 : decode prog_14_method_68_code 63 = .ok (.iload_n 2, 1) := dd193_56.2.2.2.1
theorem d193_64 : decode prog_14_method_68_code 64 = .ok (.istore_n 1, 1) := dd193_56.2.2.2.2.1
theorem d193_65 : decode prog_14_method_68_code 65 = .ok (.iinc 2 1, 3) := dd193_56.2.2.2.2.2.1
theorem d193_68 : decode prog_14_method_68_code 68 = .ok (.goto (-59), 3) := dd193_56.2.2.2.2.2.2.1
theorem d193_71 : decode prog_14_method_68_code 71 = .ok (.aload_n 0, 1) := dd193_56.2.2.2.2.2.2.2.1
theorem d193_72 : decode prog_14_method_68_code 72 = .ok (.invokevirtual 317, 3) := dd193_56.2.2.2.2.2.2.2.2.1
theorem d193_75 : decode prog_14_method_68_code 75 = .ok (.iload_n 1, 1) := dd193_56.2.2.2.2.2.2.2.2.2.1
theorem d193_76 : decode prog_14_method_68_code 76 = .ok (.ireturn, 1) := dd193_56.2.2.2.2.2.2.2.2.2.2
theorem b193_0 {d : Nat} {S : mm_S} {a0 : Nat} (h0 : mm_rk S a0 = 12) : mm_ex (d + 1) 193 0 [.ref a0, .null, .null, .null] [] S =
    mm_bd (mm_cl d 171 [.ref a0] S) (fun v S2 => mm_ex (d + 1) 193 4 [.ref a0, .null, .null, .null] (v.toList ++ []) S2) :=
  Eq.trans (mx_aload_n t193 d193_0 (x := a0) rfl) <|
  (mx_virt (st := []) (k := 12) t193 [] d193_1 vt12_311 rfl rfl (Nat.le_of_ble_eq_true rfl) (Nat.le_of_ble_eq_true rfl) h0)
theorem b193_4 {d : Nat} {S : mm_S} {a0 : Nat} : mm_ex d 193 4 [.ref a0, .null, .null, .null] [] S =
    mm_ex d 193 9 [.ref a0, .int (-5), .int (nI 0), .null] [] S :=
  Eq.trans (mx_bipush t193 d193_4 (v := -5) rfl) <|
  Eq.trans (mx_istore_n t193 d193_6 (ls' := [.ref a0, .int (-5), .null, .null]) rfl rfl) <|
  Eq.trans (mx_iconst t193 d193_7 (v := nI 0) rfl) <|
  (mx_istore_n t193 d193_8 (ls' := [.ref a0, .int (-5), .int (nI 0), .null]) rfl rfl)
theorem b193_9 {d : Nat} {S : mm_S} {a0 : Nat} {x1 : Int32} {x2 : Int32} {v3 : Value} (h0 : mm_obj S a0 12 = true) : mm_ex d 193 9 [.ref a0, .int x1, .int x2, v3] [] S =
    if (mm_M S a0 15) ≤ x2 then mm_ex d 193 71 [.ref a0, .int x1, .int x2, v3] [] S else mm_ex d 193 17 [.ref a0, .int x1, .int x2, v3] [] S :=
  Eq.trans (mx_iload_n t193 d193_9 (x := x2) rfl) <|
  Eq.trans (mx_aload_n t193 d193_10 (x := a0) rfl) <|
  Eq.trans (mx_geti t193 d193_11 rfl fl12_365 h0) <|
  (mx_cge t193 d193_14 (tgt := 71) (by decide))
theorem b193_17 {d : Nat} {S : mm_S} {a0 : Nat} {x1 : Int32} {x2 : Int32} {v3 : Value} : mm_ex d 193 17 [.ref a0, .int x1, .int x2, v3] [] S =
    if x1 = (-5) then mm_ex d 193 23 [.ref a0, .int x1, .int x2, v3] [] S else mm_ex d 193 71 [.ref a0, .int x1, .int x2, v3] [] S :=
  Eq.trans (mx_iload_n t193 d193_17 (x := x1) rfl) <|
  Eq.trans (mx_bipush t193 d193_18 (v := -5) rfl) <|
  (mx_cne t193 d193_20 (tgt := 71) (by decide))
theorem b193_23 {d : Nat} {S : mm_S} {a0 : Nat} {x1 : Int32} {x2 : Int32} {v3 : Value} (h0 : mm_rk S a0 = 12) : mm_ex (d + 1) 193 23 [.ref a0, .int x1, .int x2, v3] [] S =
    mm_bd (mm_cl d 168 [.ref a0] S) (fun v S2 => mm_ex (d + 1) 193 27 [.ref a0, .int x1, .int x2, v3] (v.toList ++ []) S2) :=
  Eq.trans (mx_aload_n t193 d193_23 (x := a0) rfl) <|
  (mx_virt (st := []) (k := 12) t193 [] d193_24 vt12_290 rfl rfl (Nat.le_of_ble_eq_true rfl) (Nat.le_of_ble_eq_true rfl) h0)
theorem b193_27 {d : Nat} {S : mm_S} {a0 : Nat} {x1 : Int32} {x2 : Int32} {v3 : Value} {p0 : Int32} : mm_ex d 193 27 [.ref a0, .int x1, .int x2, v3] [.int p0] S =
    if p0 = nI 0 then mm_ex d 193 43 [.ref a0, .int x1, .int x2, v3] [] S else mm_ex d 193 30 [.ref a0, .int x1, .int x2, v3] [] S :=
  (mx_ieq t193 d193_27 (tgt := 43) (by decide))
theorem b193_30 {d : Nat} {S : mm_S} {a0 : Nat} {x1 : Int32} {x2 : Int32} {v3 : Value} (h0 : mm_obj S a0 12 = true) (h1 : (mm_R S a0 9).isSome = true) (h2 : mm_inb (nI 0) (mm_N S (mm_rg S a0 9)) = true) (h3 : mm_arr S (mm_rg S a0 9) 13 = true) (h4 : mm_rk S a0 = 12) : mm_ex (d + 1) 193 30 [.ref a0, .int x1, .int x2, v3] [] S =
    mm_bd (mm_cl d 166 [.ref a0, .int (mm_M S (mm_rg S a0 9) (nI 0).toNatClampNeg)] S) (fun v S2 => mm_ex (d + 1) 193 40 [.ref a0, .int x1, .int x2, v3] (v.toList ++ []) S2) :=
  Eq.trans (mx_aload_n t193 d193_30 (x := a0) rfl) <|
  Eq.trans (mx_aload_n t193 d193_31 (x := a0) rfl) <|
  Eq.trans (mx_getR t193 d193_32 rfl fl12_33 h0 h1) <|
  Eq.trans (mx_iconst t193 d193_35 (v := nI 0) rfl) <|
  Eq.trans (mx_iald t193 d193_36 h3 h2) <|
  (mx_virt (st := []) (k := 12) t193 [.int (mm_M S (mm_rg S a0 9) (nI 0).toNatClampNeg)] d193_37 vt12_281 rfl rfl (Nat.le_of_ble_eq_true rfl) (Nat.le_of_ble_eq_true rfl) h4)
theorem b193_40 {d : Nat} {S : mm_S} {a0 : Nat} {x1 : Int32} {x2 : Int32} {v3 : Value} {p0 : Int32} (h0 : mm_obj S a0 12 = true) (h1 : (mm_R S a0 16).isSome = true) (h2 : mm_inb x2 (mm_N S (mm_rg S a0 16)) = true) (h3 : mm_arr S (mm_rg S a0 16) 13 = true) : mm_ex d 193 40 [.ref a0, .int x1, .int x2, v3] [.int p0] S =
    if p0 = (mm_M S (mm_rg S a0 16) (x2).toNatClampNeg) then mm_ex d 193 55 [.ref a0, .int x1, .int x2, .int p0] [] S else mm_ex d 193 63 [.ref a0, .int x1, .int x2, .int p0] [] S :=
  Eq.trans (mx_goto t193 d193_40 (tgt := 44) (by decide)) <|
  Eq.trans (mx_istore_n t193 d193_44 (ls' := [.ref a0, .int x1, .int x2, .int p0]) rfl rfl) <|
  Eq.trans (mx_iload_n t193 d193_45 (x := p0) rfl) <|
  Eq.trans (mx_aload_n t193 d193_46 (x := a0) rfl) <|
  Eq.trans (mx_getR t193 d193_47 rfl fl12_43 h0 h1) <|
  Eq.trans (mx_iload_n t193 d193_50 (x := x2) rfl) <|
  Eq.trans (mx_iald t193 d193_51 h3 h2) <|
  (mx_cne t193 d193_52 (tgt := 63) (by decide))
theorem b193_43 {d : Nat} {S : mm_S} {a0 : Nat} {x1 : Int32} {x2 : Int32} {v3 : Value} (h0 : mm_obj S a0 12 = true) (h1 : (mm_R S a0 16).isSome = true) (h2 : mm_inb x2 (mm_N S (mm_rg S a0 16)) = true) (h3 : mm_arr S (mm_rg S a0 16) 13 = true) : mm_ex d 193 43 [.ref a0, .int x1, .int x2, v3] [] S =
    if (nI 0) = (mm_M S (mm_rg S a0 16) (x2).toNatClampNeg) then mm_ex d 193 55 [.ref a0, .int x1, .int x2, .int (nI 0)] [] S else mm_ex d 193 63 [.ref a0, .int x1, .int x2, .int (nI 0)] [] S :=
  Eq.trans (mx_iconst t193 d193_43 (v := nI 0) rfl) <|
  Eq.trans (mx_istore_n t193 d193_44 (ls' := [.ref a0, .int x1, .int x2, .int (nI 0)]) rfl rfl) <|
  Eq.trans (mx_iload_n t193 d193_45 (x := nI 0) rfl) <|
  Eq.trans (mx_aload_n t193 d193_46 (x := a0) rfl) <|
  Eq.trans (mx_getR t193 d193_47 rfl fl12_43 h0 h1) <|
  Eq.trans (mx_iload_n t193 d193_50 (x := x2) rfl) <|
  Eq.trans (mx_iald t193 d193_51 h3 h2) <|
  (mx_cne t193 d193_52 (tgt := 63) (by decide))
theorem b193_55 {d : Nat} {S : mm_S} {a0 : Nat} {x1 : Int32} {x2 : Int32} {x3 : Int32} (h0 : mm_rk S a0 = 12) : mm_ex (d + 1) 193 55 [.ref a0, .int x1, .int x2, .int x3] [] S =
    mm_bd (mm_cl d 169 [.ref a0, .int x3] S) (fun v S2 => mm_ex (d + 1) 193 60 [.ref a0, .int x1, .int x2, .int x3] (v.toList ++ []) S2) :=
  Eq.trans (mx_aload_n t193 d193_55 (x := a0) rfl) <|
  Eq.trans (mx_iload_n t193 d193_56 (x := x3) rfl) <|
  (mx_virt (st := []) (k := 12) t193 [.int x3] d193_57 vt12_293 rfl rfl (Nat.le_of_ble_eq_true rfl) (Nat.le_of_ble_eq_true rfl) h0)
theorem b193_60 {d : Nat} {S : mm_S} {a0 : Nat} {x1 : Int32} {x2 : Int32} {x3 : Int32} : mm_ex d 193 60 [.ref a0, .int x1, .int x2, .int x3] [] S =
    mm_ex d 193 9 [.ref a0, .int x1, .int (x2 + nI 1), .int x3] [] S :=
  Eq.trans (mx_goto t193 d193_60 (tgt := 65) (by decide)) <|
  Eq.trans (mx_iinc t193 d193_65 (x := x2) (v := nI 1) (ls' := [.ref a0, .int x1, .int (x2 + nI 1), .int x3]) rfl rfl rfl rfl) <|
  (mx_goto t193 d193_68 (tgt := 9) (by decide))
theorem b193_63 {d : Nat} {S : mm_S} {a0 : Nat} {x1 : Int32} {x2 : Int32} {x3 : Int32} : mm_ex d 193 63 [.ref a0, .int x1, .int x2, .int x3] [] S =
    mm_ex d 193 9 [.ref a0, .int x2, .int (x2 + nI 1), .int x3] [] S :=
  Eq.trans (mx_iload_n t193 d193_63 (x := x2) rfl) <|
  Eq.trans (mx_istore_n t193 d193_64 (ls' := [.ref a0, .int x2, .int x2, .int x3]) rfl rfl) <|
  Eq.trans (mx_iinc t193 d193_65 (x := x2) (v := nI 1) (ls' := [.ref a0, .int x2, .int (x2 + nI 1), .int x3]) rfl rfl rfl rfl) <|
  (mx_goto t193 d193_68 (tgt := 9) (by decide))
theorem b193_71 {d : Nat} {S : mm_S} {a0 : Nat} {x1 : Int32} {x2 : Int32} {v3 : Value} (h0 : mm_rk S a0 = 12) : mm_ex (d + 1) 193 71 [.ref a0, .int x1, .int x2, v3] [] S =
    mm_bd (mm_cl d 172 [.ref a0] S) (fun v S2 => mm_ex (d + 1) 193 75 [.ref a0, .int x1, .int x2, v3] (v.toList ++ []) S2) :=
  Eq.trans (mx_aload_n t193 d193_71 (x := a0) rfl) <|
  (mx_virt (st := []) (k := 12) t193 [] d193_72 vt12_317 rfl rfl (Nat.le_of_ble_eq_true rfl) (Nat.le_of_ble_eq_true rfl) h0)
theorem b193_75 {d : Nat} {S : mm_S} {a0 : Nat} {x1 : Int32} {x2 : Int32} {v3 : Value} : mm_ex d 193 75 [.ref a0, .int x1, .int x2, v3] [] S =
    some (some (.int x1), S) :=
  Eq.trans (mx_iload_n t193 d193_75 (x := x1) rfl) <|
  (mx_iret t193 d193_76 (ty := .int) rfl rfl (fun h => nomatch h))
theorem e193 {d : Nat} {S : mm_S} {a0 : Nat} : mm_cl d 193 [.ref a0] S = mm_ex d 193 0 [.ref a0, .null, .null, .null] [] S := mm_cl_eq t193 (Nat.le_of_ble_eq_true rfl) rfl
/-! X12_isTape -/
theorem d194_0 : decode prog_14_method_69_code 0 = .ok (.iload_n 1, 1) := by decide +kernel
theorem d194_1 : decode prog_14_method_69_code 1 = .ok (.iconst 0, 1) := by decide +kernel
theorem d194_2 : decode prog_14_method_69_code 2 = .ok (.iconst 5, 1) := by decide +kernel
theorem d194_3 : decode prog_14_method_69_code 3 = .ok (.invokestatic 162, 3) := by decide +kernel
theorem d194_6 : decode prog_14_method_69_code 6 = .ok (.ireturn, 1) := by decide +kernel
theorem b194_0 {d : Nat} {S : mm_S} {a0 : Nat} {x1 : Int32} : mm_ex (d + 1) 194 0 [.ref a0, .int x1] [] S =
    mm_bd (mm_cl d 128 [.int x1, .int (nI 0), .int (nI 5)] S) (fun v S2 => mm_ex (d + 1) 194 6 [.ref a0, .int x1] (v.toList ++ []) S2) :=
  Eq.trans (mx_iload_n t194 d194_0 (x := x1) rfl) <|
  Eq.trans (mx_iconst t194 d194_1 (v := nI 0) rfl) <|
  Eq.trans (mx_iconst t194 d194_2 (v := nI 5) rfl) <|
  (mx_stat (st := []) t194 [.int x1, .int (nI 0), .int (nI 5)] d194_3 acn12_162 mxn12_162 st12_162 rfl (Nat.le_of_ble_eq_true rfl) (Nat.le_of_ble_eq_true rfl))
theorem b194_6 {d : Nat} {S : mm_S} {a0 : Nat} {x1 : Int32} {p0 : Int32} (h0 : narrow .boolean (.int p0) = .int p0) : mm_ex d 194 6 [.ref a0, .int x1] [.int p0] S =
    some (some (.int p0), S) :=
  (mx_iret t194 d194_6 (ty := .boolean) rfl h0 (fun h => nomatch h))
theorem e194 {d : Nat} {S : mm_S} {a0 : Nat} {x1 : Int32} : mm_cl d 194 [.ref a0, .int x1] S = mm_ex d 194 0 [.ref a0, .int x1] [] S := mm_cl_eq t194 (Nat.le_of_ble_eq_true rfl) rfl
/-! X12_judge -/
theorem dd195_0 : (decode prog_14_method_70_code 0 = .ok (.aload_n 0, 1)) ∧ (decode prog_14_method_70_code 1 = .ok (.iload_n 1, 1)) ∧ (decode prog_14_method_70_code 2 = .ok (.invokevirtual 368, 3)) ∧ (decode prog_14_method_70_code 5 = .ok (.ifCond .ne 5, 3)) ∧ (decode prog_14_method_70_code 8 = .ok (.iconst (-1), 1)) ∧ (decode prog_14_method_70_code 9 = .ok (.ireturn, 1)) ∧ (decode prog_14_method_70_code 10 = .ok (.aload_n 0, 1)) ∧ (decode prog_14_method_70_code 11 = .ok (.getfield 76, 3)) ∧ (decode prog_14_method_70_code 14 = .ok (.iload_n 1, 1)) ∧ (decode prog_14_method_70_code 15 = .ok (.iaload, 1)) ∧ (decode prog_14_method_70_code 16 = .ok (.iconst (-1), 1)) ∧ (decode prog_14_method_70_code 17 = .ok (.if_icmp .ne 6, 3)) ∧ (decode prog_14_method_70_code 20 = .ok (.bipush 100, 2)) ∧ (decode prog_14_method_70_code 22 = .ok (.ireturn, 1)) ∧ (decode prog_14_method_70_code 23 = .ok (.aload_n 0, 1)) ∧ (decode prog_14_method_70_code 24 = .ok (.getfield 76, 3)) := by decide +kernel
theorem d195_0 : decode prog_14_method_70_code 0 = .ok (.aload_n 0, 1) := dd195_0.1
theorem d195_1 : decode prog_14_method_70_code 1 = .ok (.iload_n 1, 1) := dd195_0.2.1
theorem d195_2 : decode prog_14_method_70_code 2 = .ok (.invokevirtual 368, 3) := dd195_0.2.2.1
theorem d195_5 : decode prog_14_method_70_code 5 = .ok (.ifCond .ne 5, 3) := dd195_0.2.2.2.1
theorem d195_8 : decode prog_14_method_70_code 8 = .ok (.iconst (-1), 1) := dd195_0.2.2.2.2.1
theorem d195_9 : decode prog_14_method_70_code 9 = .ok (.ireturn, 1) := dd195_0.2.2.2.2.2.1
theorem d195_10 : decode prog_14_method_70_code 10 = .ok (.aload_n 0, 1) := dd195_0.2.2.2.2.2.2.1
theorem d195_11 : decode prog_14_method_70_code 11 = .ok (.getfield 76, 3) := dd195_0.2.2.2.2.2.2.2.1
theorem d195_14 : decode prog_14_method_70_code 14 = .ok (.iload_n 1, 1) := dd195_0.2.2.2.2.2.2.2.2.1
theorem d195_15 : decode prog_14_method_70_code 15 = .ok (.iaload, 1) := dd195_0.2.2.2.2.2.2.2.2.2.1
theorem d195_16 : decode prog_14_method_70_code 16 = .ok (.iconst (-1), 1) := dd195_0.2.2.2.2.2.2.2.2.2.2.1
theorem d195_17 : decode prog_14_method_70_code 17 = .ok (.if_icmp .ne 6, 3) := dd195_0.2.2.2.2.2.2.2.2.2.2.2.1
theorem d195_20 : decode prog_14_method_70_code 20 = .ok (.bipush 100, 2) := dd195_0.2.2.2.2.2.2.2.2.2.2.2.2.1
theorem d195_22 : decode prog_14_method_70_code 22 = .ok (.ireturn, 1) := dd195_0.2.2.2.2.2.2.2.2.2.2.2.2.2.1
theorem d195_23 : decode prog_14_method_70_code 23 = .ok (.aload_n 0, 1) := dd195_0.2.2.2.2.2.2.2.2.2.2.2.2.2.2.1
theorem d195_24 : decode prog_14_method_70_code 24 = .ok (.getfield 76, 3) := dd195_0.2.2.2.2.2.2.2.2.2.2.2.2.2.2.2
theorem dd195_27 : (decode prog_14_method_70_code 27 = .ok (.iload_n 1, 1)) ∧ (decode prog_14_method_70_code 28 = .ok (.iaload, 1)) ∧ (decode prog_14_method_70_code 29 = .ok (.iconst 2, 1)) ∧ (decode prog_14_method_70_code 30 = .ok (.if_icmp .eq 6, 3)) ∧ (decode prog_14_method_70_code 33 = .ok (.bipush (-12), 2)) ∧ (decode prog_14_method_70_code 35 = .ok (.ireturn, 1)) ∧ (decode prog_14_method_70_code 36 = .ok (.iload_n 2, 1)) ∧ (decode prog_14_method_70_code 37 = .ok (.ifCond .ge 6, 3)) ∧ (decode prog_14_method_70_code 40 = .ok (.bipush 100, 2)) ∧ (decode prog_14_method_70_code 42 = .ok (.ireturn, 1)) ∧ (decode prog_14_method_70_code 43 = .ok (.aload_n 0, 1)) ∧ (decode prog_14_method_70_code 44 = .ok (.invokevirtual 311, 3)) ∧ (decode prog_14_method_70_code 47 = .ok (.aload_n 0, 1)) ∧ (decode prog_14_method_70_code 48 = .ok (.invokevirtual 314, 3)) ∧ (decode prog_14_method_70_code 51 = .ok (.bipush (-5), 2)) ∧ (decode prog_14_method_70_code 53 = .ok (.istore_n 3, 1)) := by decide +kernel
theorem d195_27 : decode prog_14_method_70_code 27 = .ok (.iload_n 1, 1) := dd195_27.1
theorem d195_28 : decode prog_14_method_70_code 28 = .ok (.iaload, 1) := dd195_27.2.1
theorem d195_29 : decode prog_14_method_70_code 29 = .ok (.iconst 2, 1) := dd195_27.2.2.1
theorem d195_30 : decode prog_14_method_70_code 30 = .ok (.if_icmp .eq 6, 3) := dd195_27.2.2.2.1
theorem d195_33 : decode prog_14_method_70_code 33 = .ok (.bipush (-12), 2) := dd195_27.2.2.2.2.1
theorem d195_35 : decode prog_14_method_70_code 35 = .ok (.ireturn, 1) := dd195_27.2.2.2.2.2.1
theorem d195_36 : decode prog_14_method_70_code 36 = .ok (.iload_n 2, 1) := dd195_27.2.2.2.2.2.2.1
theorem d195_37 : decode prog_14_method_70_code 37 = .ok (.ifCond .ge 6, 3) := dd195_27.2.2.2.2.2.2.2.1
theorem d195_40 : decode prog_14_method_70_code 40 = .ok (.bipush 100, 2) := dd195_27.2.2.2.2.2.2.2.2.1
theorem d195_42 : decode prog_14_method_70_code 42 = .ok (.ireturn, 1) := dd195_27.2.2.2.2.2.2.2.2.2.1
theorem d195_43 : decode prog_14_method_70_code 43 = .ok (.aload_n 0, 1) := dd195_27.2.2.2.2.2.2.2.2.2.2.1
theorem d195_44 : decode prog_14_method_70_code 44 = .ok (.invokevirtual 311, 3) := dd195_27.2.2.2.2.2.2.2.2.2.2.2.1
theorem d195_47 : decode prog_14_method_70_code 47 = .ok (.aload_n 0, 1) := dd195_27.2.2.2.2.2.2.2.2.2.2.2.2.1
theorem d195_48 : decode prog_14_method_70_code 48 = .ok (.invokevirtual 314, 3) := dd195_27.2.2.2.2.2.2.2.2.2.2.2.2.2.1
theorem d195_51 : decode prog_14_method_70_code 51 = .ok (.bipush (-5), 2) := dd195_27.2.2.2.2.2.2.2.2.2.2.2.2.2.2.1
theorem d195_53 : decode prog_14_method_70_code 53 = .ok (.istore_n 3, 1) := dd195_27.2.2.2.2.2.2.2.2.2.2.2.2.2.2.2
theorem dd195_54 : (decode prog_14_method_70_code 54 = .ok (.iconst 0, 1)) ∧ (decode prog_14_method_70_code 55 = .ok (.istore 4, 2)) ∧ (decode prog_14_method_70_code 57 = .ok (.iload 4, 2)) ∧ (decode prog_14_method_70_code 59 = .ok (.aload_n 0, 1)) ∧ (decode prog_14_method_70_code 60 = .ok (.getfield 159, 3)) ∧ (decode prog_14_method_70_code 63 = .ok (.if_icmp .ge 68, 3)) ∧ (decode prog_14_method_70_code 66 = .ok (.iload_n 3, 1)) ∧ (decode prog_14_method_70_code 67 = .ok (.bipush (-5), 2)) ∧ (decode prog_14_method_70_code 69 = .ok (.if_icmp .ne 62, 3)) ∧ (decode prog_14_method_70_code 72 = .ok (.iload_n 2, 1)) ∧ (decode prog_14_method_70_code 73 = .ok (.aload_n 0, 1)) ∧ (decode prog_14_method_70_code 74 = .ok (.getfield 79, 3)) ∧ (decode prog_14_method_70_code 77 = .ok (.iload_n 1, 1)) ∧ (decode prog_14_method_70_code 78 = .ok (.iaload, 1)) ∧ (decode prog_14_method_70_code 79 = .ok (.iconst 1, 1)) ∧ (decode prog_14_method_70_code 80 = .ok (.isub, 1)) := by decide +kernel
theorem d195_54 : decode prog_14_method_70_code 54 = .ok (.iconst 0, 1) := dd195_54.1
theorem d195_55 : decode prog_14_method_70_code 55 = .ok (.istore 4, 2) := dd195_54.2.1
theorem d195_57 : decode prog_14_method_70_code 57 = .ok (.iload 4, 2) := dd195_54.2.2.1
theorem d195_59 : decode prog_14_method_70_code 59 = .ok (.aload_n 0, 1) := dd195_54.2.2.2.1
theorem d195_60 : decode prog_14_method_70_code 60 = .ok (.getfield 159, 3) := dd195_54.2.2.2.2.1
theorem d195_63 : decode prog_14_method_70_code 63 = .ok (.if_icmp .ge 68, 3) := dd195_54.2.2.2.2.2.1
theorem d195_66 : decode prog_14_method_70_code 66 = .ok (.iload_n 3, 1) := dd195_54.2.2.2.2.2.2.1
theorem d195_67 : decode prog_14_method_70_code 67 = .ok (.bipush (-5), 2) := dd195_54.2.2.2.2.2.2.2.1
theorem d195_69 : decode prog_14_method_70_code 69 = .ok (.if_icmp .ne 62, 3) := dd195_54.2.2.2.2.2.2.2.2.1
theorem d195_72 : decode prog_14_method_70_code 72 = .ok (.iload_n 2, 1) := dd195_54.2.2.2.2.2.2.2.2.2.1
theorem d195_73 : decode prog_14_method_70_code 73 = .ok (.aload_n 0, 1) := dd195_54.2.2.2.2.2.2.2.2.2.2.1
theorem d195_74 : decode prog_14_method_70_code 74 = .ok (.getfield 79, 3) := dd195_54.2.2.2.2.2.2.2.2.2.2.2.1
theorem d195_77 : decode prog_14_method_70_code 77 = .ok (.iload_n 1, 1) := dd195_54.2.2.2.2.2.2.2.2.2.2.2.2.1
theorem d195_78 : decode prog_14_method_70_code 78 = .ok (.iaload, 1) := dd195_54.2.2.2.2.2.2.2.2.2.2.2.2.2.1
theorem d195_79 : decode prog_14_method_70_code 79 = .ok (.iconst 1, 1) := dd195_54.2.2.2.2.2.2.2.2.2.2.2.2.2.2.1
theorem d195_80 : decode prog_14_method_70_code 80 = .ok (.isub, 1) := dd195_54.2.2.2.2.2.2.2.2.2.2.2.2.2.2.2
theorem dd195_81 : (decode prog_14_method_70_code 81 = .ok (.iload 4, 2)) ∧ (decode prog_14_method_70_code 83 = .ok (.isub, 1)) ∧ (decode prog_14_method_70_code 84 = .ok (.if_icmp .le 12, 3)) ∧ (decode prog_14_method_70_code 87 = .ok (.bipush 100, 2)) ∧ (decode prog_14_method_70_code 89 = .ok (.iload 4, 2)) ∧ (decode prog_14_method_70_code 91 = .ok (.iadd, 1)) ∧ (decode prog_14_method_70_code 92 = .ok (.istore_n 3, 1)) ∧ (decode prog_14_method_70_code 93 = .ok (.goto 32, 3)) ∧ (decode prog_14_method_70_code 96 = .ok (.aload_n 0, 1)) ∧ (decode prog_14_method_70_code 97 = .ok (.getfield 82, 3)) ∧ (decode prog_14_method_70_code 100 = .ok (.bipush 60, 2)) ∧ (decode prog_14_method_70_code 102 = .ok (.iload_n 1, 1)) ∧ (decode prog_14_method_70_code 103 = .ok (.imul, 1)) ∧ (decode prog_14_method_70_code 104 = .ok (.iload_n 2, 1)) ∧ (decode prog_14_method_70_code 105 = .ok (.iadd, 1)) ∧ (decode prog_14_method_70_code 106 = .ok (.iload 4, 2)) := by decide +kernel
theorem d195_81 : decode prog_14_method_70_code 81 = .ok (.iload 4, 2) := dd195_81.1
theorem d195_83 : decode prog_14_method_70_code 83 = .ok (.isub, 1) := dd195_81.2.1
theorem d195_84 : decode prog_14_method_70_code 84 = .ok (.if_icmp .le 12, 3) := dd195_81.2.2.1
theorem d195_87 : decode prog_14_method_70_code 87 = .ok (.bipush 100, 2) := dd195_81.2.2.2.1
theorem d195_89 : decode prog_14_method_70_code 89 = .ok (.iload 4, 2) := dd195_81.2.2.2.2.1
theorem d195_91 : decode prog_14_method_70_code 91 = .ok (.iadd, 1) := dd195_81.2.2.2.2.2.1
theorem d195_92 : decode prog_14_method_70_code 92 = .ok (.istore_n 3, 1) := dd195_81.2.2.2.2.2.2.1
theorem d195_93 : decode prog_14_method_70_code 93 = .ok (.goto 32, 3) := dd195_81.2.2.2.2.2.2.2.1
theorem d195_96 : decode prog_14_method_70_code 96 = .ok (.aload_n 0, 1) := dd195_81.2.2.2.2.2.2.2.2.1
theorem d195_97 : decode prog_14_method_70_code 97 = .ok (.getfield 82, 3) := dd195_81.2.2.2.2.2.2.2.2.2.1
theorem d195_100 : decode prog_14_method_70_code 100 = .ok (.bipush 60, 2) := dd195_81.2.2.2.2.2.2.2.2.2.2.1
theorem d195_102 : decode prog_14_method_70_code 102 = .ok (.iload_n 1, 1) := dd195_81.2.2.2.2.2.2.2.2.2.2.2.1
theorem d195_103 : decode prog_14_method_70_code 103 = .ok (.imul, 1) := dd195_81.2.2.2.2.2.2.2.2.2.2.2.2.1
theorem d195_104 : decode prog_14_method_70_code 104 = .ok (.iload_n 2, 1) := dd195_81.2.2.2.2.2.2.2.2.2.2.2.2.2.1
theorem d195_105 : decode prog_14_method_70_code 105 = .ok (.iadd, 1) := dd195_81.2.2.2.2.2.2.2.2.2.2.2.2.2.2.1
theorem d195_106 : decode prog_14_method_70_code 106 = .ok (.iload 4, 2) := dd195_81.2.2.2.2.2.2.2.2.2.2.2.2.2.2.2
theorem dd195_108 : (decode prog_14_method_70_code 108 = .ok (.iadd, 1)) ∧ (decode prog_14_method_70_code 109 = .ok (.laload, 1)) ∧ (decode prog_14_method_70_code 110 = .ok (.aload_n 0, 1)) ∧ (decode prog_14_method_70_code 111 = .ok (.getfield 27, 3)) ∧ (decode prog_14_method_70_code 114 = .ok (.iload 4, 2)) ∧ (decode prog_14_method_70_code 116 = .ok (.iaload, 1)) ∧ (decode prog_14_method_70_code 117 = .ok (.i2l, 1)) ∧ (decode prog_14_method_70_code 118 = .ok (.lcmp, 1)) ∧ (decode prog_14_method_70_code 119 = .ok (.ifCond .eq 6, 3)) ∧ (decode prog_14_method_70_code 122 = .ok (.iload 4, 2)) ∧ (decode prog_14_method_70_code 124 = .ok (.istore_n 3, 1)) ∧ (decode prog_14_method_70_code 125 = .ok (.iinc 4 1, 3)) ∧ (decode prog_14_method_70_code 128 = .ok (.goto (-71), 3)) ∧ (decode prog_14_method_70_code 131 = .ok (.aload_n 0, 1)) ∧ (decode prog_14_method_70_code 132 = .ok (.invokevirtual 317, 3)) ∧ (decode prog_14_method_70_code 135 = .ok (.iload_n 3, 1)) := by decide +kernel
theorem d195_108 : decode prog_14_method_70_code 108 = .ok (.iadd, 1) := dd195_108.1
theorem d195_109 : decode prog_14_method_70_code 109 = .ok (.laload, 1) := dd195_108.2.1
theorem d195_110 : decode prog_14_method_70_code 110 = .ok (.aload_n 0, 1) := dd195_108.2.2.1
theorem d195_111 : decode prog_14_method_70_code 111 = .ok (.getfield 27, 3) := dd195_108.2.2.2.1
theorem d195_114 : decode prog_14_method_70_code 114 = .ok (.iload 4, 2) := dd195_108.2.2.2.2.1
theorem d195_116 : decode prog_14_method_70_code 116 = .ok (.iaload, 1) := dd195_108.2.2.2.2.2.1
theorem d195_117 : decode prog_14_method_70_code 117 = .ok (.i2l, 1) := dd195_108.2.2.2.2.2.2.1
theorem d195_118 : decode prog_14_method_70_code 118 = .ok (.lcmp, 1) := dd195_108.2.2.2.2.2.2.2.1
theorem d195_119 : decode prog_14_method_70_code 119 = .ok (.ifCond .eq 6, 3) := dd195_108.2.2.2.2.2.2.2.2.1
theorem d195_122 : decode prog_14_method_70_code 122 = .ok (.iload 4, 2) := dd195_108.2.2.2.2.2.2.2.2.2.1
theorem d195_124 : decode prog_14_method_70_code 124 = .ok (.istore_n 3, 1) := dd195_108.2.2.2.2.2.2.2.2.2.2.1
theorem d195_125 : decode prog_14_method_70_code 125 = .ok (.iinc 4 1, 3) := dd195_108.2.2.2.2.2.2.2.2.2.2.2.1
theorem d195_128 : decode prog_14_method_70_code 128 = .ok (.goto (-71), 3) := dd195_108.2.2.2.2.2.2.2.2.2.2.2.2.1
theorem d195_131 : decode prog_14_method_70_code 131 = .ok (.aload_n 0, 1) := dd195_108.2.2.2.2.2.2.2.2.2.2.2.2.2.1
theorem d195_132 : decode prog_14_method_70_code 132 = .ok (.invokevirtual 317, 3) := dd195_108.2.2.2.2.2.2.2.2.2.2.2.2.2.2.1
theorem d195_135 : decode prog_14_method_70_code 135 = .ok (.iload_n 3, 1) := dd195_108.2.2.2.2.2.2.2.2.2.2.2.2.2.2.2
theorem d195_136 : decode prog_14_method_70_code 136 = .ok (.ireturn, 1) := by decide +kernel
theorem b195_0 {d : Nat} {S : mm_S} {a0 : Nat} {x1 : Int32} {x2 : Int32} (h0 : mm_rk S a0 = 12) : mm_ex (d + 1) 195 0 [.ref a0, .int x1, .int x2, .null, .null] [] S =
    mm_bd (mm_cl d 194 [.ref a0, .int x1] S) (fun v S2 => mm_ex (d + 1) 195 5 [.ref a0, .int x1, .int x2, .null, .null] (v.toList ++ []) S2) :=
  Eq.trans (mx_aload_n t195 d195_0 (x := a0) rfl) <|
  Eq.trans (mx_iload_n t195 d195_1 (x := x1) rfl) <|
  (mx_virt (st := []) (k := 12) t195 [.int x1] d195_2 vt12_368 rfl rfl (Nat.le_of_ble_eq_true rfl) (Nat.le_of_ble_eq_true rfl) h0)
theorem b195_5 {d : Nat} {S : mm_S} {a0 : Nat} {x1 : Int32} {x2 : Int32} {p0 : Int32} : mm_ex d 195 5 [.ref a0, .int x1, .int x2, .null, .null] [.int p0] S =
    if p0 = nI 0 then mm_ex d 195 8 [.ref a0, .int x1, .int x2, .null, .null] [] S else mm_ex d 195 10 [.ref a0, .int x1, .int x2, .null, .null] [] S :=
  (mx_ine t195 d195_5 (tgt := 10) (by decide))
theorem b195_8 {d : Nat} {S : mm_S} {a0 : Nat} {x1 : Int32} {x2 : Int32} : mm_ex d 195 8 [.ref a0, .int x1, .int x2, .null, .null] [] S =
    some (some (.int (-1)), S) :=
  Eq.trans (mx_iconst t195 d195_8 (v := -1) rfl) <|
  (mx_iret t195 d195_9 (ty := .int) rfl rfl (fun h => nomatch h))
theorem b195_10 {d : Nat} {S : mm_S} {a0 : Nat} {x1 : Int32} {x2 : Int32} (h0 : mm_obj S a0 12 = true) (h1 : (mm_R S a0 30).isSome = true) (h2 : mm_inb x1 (mm_N S (mm_rg S a0 30)) = true) (h3 : mm_arr S (mm_rg S a0 30) 13 = true) : mm_ex d 195 10 [.ref a0, .int x1, .int x2, .null, .null] [] S =
    if (mm_M S (mm_rg S a0 30) (x1).toNatClampNeg) = (-1) then mm_ex d 195 20 [.ref a0, .int x1, .int x2, .null, .null] [] S else mm_ex d 195 23 [.ref a0, .int x1, .int x2, .null, .null] [] S :=
  Eq.trans (mx_aload_n t195 d195_10 (x := a0) rfl) <|
  Eq.trans (mx_getR t195 d195_11 rfl fl12_76 h0 h1) <|
  Eq.trans (mx_iload_n t195 d195_14 (x := x1) rfl) <|
  Eq.trans (mx_iald t195 d195_15 h3 h2) <|
  Eq.trans (mx_iconst t195 d195_16 (v := -1) rfl) <|
  (mx_cne t195 d195_17 (tgt := 23) (by decide))
theorem b195_20 {d : Nat} {S : mm_S} {a0 : Nat} {x1 : Int32} {x2 : Int32} : mm_ex d 195 20 [.ref a0, .int x1, .int x2, .null, .null] [] S =
    some (some (.int (nI 100)), S) :=
  Eq.trans (mx_bipush t195 d195_20 (v := nI 100) rfl) <|
  (mx_iret t195 d195_22 (ty := .int) rfl rfl (fun h => nomatch h))
theorem b195_23 {d : Nat} {S : mm_S} {a0 : Nat} {x1 : Int32} {x2 : Int32} (h0 : mm_obj S a0 12 = true) (h1 : (mm_R S a0 30).isSome = true) (h2 : mm_inb x1 (mm_N S (mm_rg S a0 30)) = true) (h3 : mm_arr S (mm_rg S a0 30) 13 = true) : mm_ex d 195 23 [.ref a0, .int x1, .int x2, .null, .null] [] S =
    if (mm_M S (mm_rg S a0 30) (x1).toNatClampNeg) = (nI 2) then mm_ex d 195 36 [.ref a0, .int x1, .int x2, .null, .null] [] S else mm_ex d 195 33 [.ref a0, .int x1, .int x2, .null, .null] [] S :=
  Eq.trans (mx_aload_n t195 d195_23 (x := a0) rfl) <|
  Eq.trans (mx_getR t195 d195_24 rfl fl12_76 h0 h1) <|
  Eq.trans (mx_iload_n t195 d195_27 (x := x1) rfl) <|
  Eq.trans (mx_iald t195 d195_28 h3 h2) <|
  Eq.trans (mx_iconst t195 d195_29 (v := nI 2) rfl) <|
  (mx_ceq t195 d195_30 (tgt := 36) (by decide))
theorem b195_33 {d : Nat} {S : mm_S} {a0 : Nat} {x1 : Int32} {x2 : Int32} : mm_ex d 195 33 [.ref a0, .int x1, .int x2, .null, .null] [] S =
    some (some (.int (-12)), S) :=
  Eq.trans (mx_bipush t195 d195_33 (v := -12) rfl) <|
  (mx_iret t195 d195_35 (ty := .int) rfl rfl (fun h => nomatch h))
theorem b195_36 {d : Nat} {S : mm_S} {a0 : Nat} {x1 : Int32} {x2 : Int32} : mm_ex d 195 36 [.ref a0, .int x1, .int x2, .null, .null] [] S =
    if nI 0 ≤ x2 then mm_ex d 195 43 [.ref a0, .int x1, .int x2, .null, .null] [] S else mm_ex d 195 40 [.ref a0, .int x1, .int x2, .null, .null] [] S :=
  Eq.trans (mx_iload_n t195 d195_36 (x := x2) rfl) <|
  (mx_ige t195 d195_37 (tgt := 43) (by decide))
theorem b195_40 {d : Nat} {S : mm_S} {a0 : Nat} {x1 : Int32} {x2 : Int32} : mm_ex d 195 40 [.ref a0, .int x1, .int x2, .null, .null] [] S =
    some (some (.int (nI 100)), S) :=
  Eq.trans (mx_bipush t195 d195_40 (v := nI 100) rfl) <|
  (mx_iret t195 d195_42 (ty := .int) rfl rfl (fun h => nomatch h))
theorem b195_43 {d : Nat} {S : mm_S} {a0 : Nat} {x1 : Int32} {x2 : Int32} (h0 : mm_rk S a0 = 12) : mm_ex (d + 1) 195 43 [.ref a0, .int x1, .int x2, .null, .null] [] S =
    mm_bd (mm_cl d 171 [.ref a0] S) (fun v S2 => mm_ex (d + 1) 195 47 [.ref a0, .int x1, .int x2, .null, .null] (v.toList ++ []) S2) :=
  Eq.trans (mx_aload_n t195 d195_43 (x := a0) rfl) <|
  (mx_virt (st := []) (k := 12) t195 [] d195_44 vt12_311 rfl rfl (Nat.le_of_ble_eq_true rfl) (Nat.le_of_ble_eq_true rfl) h0)
theorem b195_47 {d : Nat} {S : mm_S} {a0 : Nat} {x1 : Int32} {x2 : Int32} (h0 : mm_rk S a0 = 12) : mm_ex (d + 1) 195 47 [.ref a0, .int x1, .int x2, .null, .null] [] S =
    mm_bd (mm_cl d 173 [.ref a0] S) (fun v S2 => mm_ex (d + 1) 195 51 [.ref a0, .int x1, .int x2, .null, .null] (v.toList ++ []) S2) :=
  Eq.trans (mx_aload_n t195 d195_47 (x := a0) rfl) <|
  (mx_virt (st := []) (k := 12) t195 [] d195_48 vt12_314 rfl rfl (Nat.le_of_ble_eq_true rfl) (Nat.le_of_ble_eq_true rfl) h0)
theorem b195_51 {d : Nat} {S : mm_S} {a0 : Nat} {x1 : Int32} {x2 : Int32} : mm_ex d 195 51 [.ref a0, .int x1, .int x2, .null, .null] [] S =
    mm_ex d 195 57 [.ref a0, .int x1, .int x2, .int (-5), .int (nI 0)] [] S :=
  Eq.trans (mx_bipush t195 d195_51 (v := -5) rfl) <|
  Eq.trans (mx_istore_n t195 d195_53 (ls' := [.ref a0, .int x1, .int x2, .int (-5), .null]) rfl rfl) <|
  Eq.trans (mx_iconst t195 d195_54 (v := nI 0) rfl) <|
  (mx_istore t195 d195_55 (ls' := [.ref a0, .int x1, .int x2, .int (-5), .int (nI 0)]) rfl rfl)
theorem b195_57 {d : Nat} {S : mm_S} {a0 : Nat} {x1 : Int32} {x2 : Int32} {x3 : Int32} {x4 : Int32} (h0 : mm_obj S a0 12 = true) : mm_ex d 195 57 [.ref a0, .int x1, .int x2, .int x3, .int x4] [] S =
    if (mm_M S a0 0) ≤ x4 then mm_ex d 195 131 [.ref a0, .int x1, .int x2, .int x3, .int x4] [] S else mm_ex d 195 66 [.ref a0, .int x1, .int x2, .int x3, .int x4] [] S :=
  Eq.trans (mx_iload t195 d195_57 (x := x4) rfl) <|
  Eq.trans (mx_aload_n t195 d195_59 (x := a0) rfl) <|
  Eq.trans (mx_geti t195 d195_60 rfl fl12_159 h0) <|
  (mx_cge t195 d195_63 (tgt := 131) (by decide))
theorem b195_66 {d : Nat} {S : mm_S} {a0 : Nat} {x1 : Int32} {x2 : Int32} {x3 : Int32} {x4 : Int32} : mm_ex d 195 66 [.ref a0, .int x1, .int x2, .int x3, .int x4] [] S =
    if x3 = (-5) then mm_ex d 195 72 [.ref a0, .int x1, .int x2, .int x3, .int x4] [] S else mm_ex d 195 131 [.ref a0, .int x1, .int x2, .int x3, .int x4] [] S :=
  Eq.trans (mx_iload_n t195 d195_66 (x := x3) rfl) <|
  Eq.trans (mx_bipush t195 d195_67 (v := -5) rfl) <|
  (mx_cne t195 d195_69 (tgt := 131) (by decide))
theorem b195_72 {d : Nat} {S : mm_S} {a0 : Nat} {x1 : Int32} {x2 : Int32} {x3 : Int32} {x4 : Int32} (h0 : mm_obj S a0 12 = true) (h1 : (mm_R S a0 31).isSome = true) (h2 : mm_inb x1 (mm_N S (mm_rg S a0 31)) = true) (h3 : mm_arr S (mm_rg S a0 31) 13 = true) : mm_ex d 195 72 [.ref a0, .int x1, .int x2, .int x3, .int x4] [] S =
    if x2 ≤ (((mm_M S (mm_rg S a0 31) (x1).toNatClampNeg) - (nI 1)) - x4) then mm_ex d 195 96 [.ref a0, .int x1, .int x2, .int x3, .int x4] [] S else mm_ex d 195 87 [.ref a0, .int x1, .int x2, .int x3, .int x4] [] S :=
  Eq.trans (mx_iload_n t195 d195_72 (x := x2) rfl) <|
  Eq.trans (mx_aload_n t195 d195_73 (x := a0) rfl) <|
  Eq.trans (mx_getR t195 d195_74 rfl fl12_79 h0 h1) <|
  Eq.trans (mx_iload_n t195 d195_77 (x := x1) rfl) <|
  Eq.trans (mx_iald t195 d195_78 h3 h2) <|
  Eq.trans (mx_iconst t195 d195_79 (v := nI 1) rfl) <|
  Eq.trans (mx_isub t195 d195_80) <|
  Eq.trans (mx_iload t195 d195_81 (x := x4) rfl) <|
  Eq.trans (mx_isub t195 d195_83) <|
  (mx_cle t195 d195_84 (tgt := 96) (by decide))
theorem b195_87 {d : Nat} {S : mm_S} {a0 : Nat} {x1 : Int32} {x2 : Int32} {x3 : Int32} {x4 : Int32} : mm_ex d 195 87 [.ref a0, .int x1, .int x2, .int x3, .int x4] [] S =
    mm_ex d 195 57 [.ref a0, .int x1, .int x2, .int ((nI 100) + x4), .int (x4 + nI 1)] [] S :=
  Eq.trans (mx_bipush t195 d195_87 (v := nI 100) rfl) <|
  Eq.trans (mx_iload t195 d195_89 (x := x4) rfl) <|
  Eq.trans (mx_iadd t195 d195_91) <|
  Eq.trans (mx_istore_n t195 d195_92 (ls' := [.ref a0, .int x1, .int x2, .int ((nI 100) + x4), .int x4]) rfl rfl) <|
  Eq.trans (mx_goto t195 d195_93 (tgt := 125) (by decide)) <|
  Eq.trans (mx_iinc t195 d195_125 (x := x4) (v := nI 1) (ls' := [.ref a0, .int x1, .int x2, .int ((nI 100) + x4), .int (x4 + nI 1)]) rfl rfl rfl rfl) <|
  (mx_goto t195 d195_128 (tgt := 57) (by decide))
theorem b195_96 {d : Nat} {S : mm_S} {a0 : Nat} {x1 : Int32} {x2 : Int32} {x3 : Int32} {x4 : Int32} (h0 : mm_obj S a0 12 = true) (h1 : (mm_R S a0 32).isSome = true) (h2 : mm_inb ((((nI 60) * x1) + x2) + x4) (mm_N S (mm_rg S a0 32)) = true) (h3 : mm_arr S (mm_rg S a0 32) 14 = true) (h4 : (mm_R S a0 6).isSome = true) (h5 : mm_inb x4 (mm_N S (mm_rg S a0 6)) = true) (h6 : mm_arr S (mm_rg S a0 6) 13 = true) : mm_ex d 195 96 [.ref a0, .int x1, .int x2, .int x3, .int x4] [] S =
    if (lg_cmp (mm_L S (mm_rg S a0 32) ((((nI 60) * x1) + x2) + x4).toNatClampNeg) ((mm_M S (mm_rg S a0 6) (x4).toNatClampNeg).toInt64)) = nI 0 then mm_ex d 195 125 [.ref a0, .int x1, .int x2, .int x3, .int x4] [] S else mm_ex d 195 122 [.ref a0, .int x1, .int x2, .int x3, .int x4] [] S :=
  Eq.trans (mx_aload_n t195 d195_96 (x := a0) rfl) <|
  Eq.trans (mx_getR t195 d195_97 rfl fl12_82 h0 h1) <|
  Eq.trans (mx_bipush t195 d195_100 (v := nI 60) rfl) <|
  Eq.trans (mx_iload_n t195 d195_102 (x := x1) rfl) <|
  Eq.trans (mx_imul t195 d195_103) <|
  Eq.trans (mx_iload_n t195 d195_104 (x := x2) rfl) <|
  Eq.trans (mx_iadd t195 d195_105) <|
  Eq.trans (mx_iload t195 d195_106 (x := x4) rfl) <|
  Eq.trans (mx_iadd t195 d195_108) <|
  Eq.trans (mx_lald t195 d195_109 h3 h2) <|
  Eq.trans (mx_aload_n t195 d195_110 (x := a0) rfl) <|
  Eq.trans (mx_getR t195 d195_111 rfl fl12_27 h0 h4) <|
  Eq.trans (mx_iload t195 d195_114 (x := x4) rfl) <|
  Eq.trans (mx_iald t195 d195_116 h6 h5) <|
  Eq.trans (mx_i2l t195 d195_117) <|
  Eq.trans (mx_lcmp t195 d195_118) <|
  (mx_ieq t195 d195_119 (tgt := 125) (by decide))
theorem b195_122 {d : Nat} {S : mm_S} {a0 : Nat} {x1 : Int32} {x2 : Int32} {x3 : Int32} {x4 : Int32} : mm_ex d 195 122 [.ref a0, .int x1, .int x2, .int x3, .int x4] [] S =
    mm_ex d 195 57 [.ref a0, .int x1, .int x2, .int x4, .int (x4 + nI 1)] [] S :=
  Eq.trans (mx_iload t195 d195_122 (x := x4) rfl) <|
  Eq.trans (mx_istore_n t195 d195_124 (ls' := [.ref a0, .int x1, .int x2, .int x4, .int x4]) rfl rfl) <|
  Eq.trans (mx_iinc t195 d195_125 (x := x4) (v := nI 1) (ls' := [.ref a0, .int x1, .int x2, .int x4, .int (x4 + nI 1)]) rfl rfl rfl rfl) <|
  (mx_goto t195 d195_128 (tgt := 57) (by decide))
theorem b195_125 {d : Nat} {S : mm_S} {a0 : Nat} {x1 : Int32} {x2 : Int32} {x3 : Int32} {x4 : Int32} : mm_ex d 195 125 [.ref a0, .int x1, .int x2, .int x3, .int x4] [] S =
    mm_ex d 195 57 [.ref a0, .int x1, .int x2, .int x3, .int (x4 + nI 1)] [] S :=
  Eq.trans (mx_iinc t195 d195_125 (x := x4) (v := nI 1) (ls' := [.ref a0, .int x1, .int x2, .int x3, .int (x4 + nI 1)]) rfl rfl rfl rfl) <|
  (mx_goto t195 d195_128 (tgt := 57) (by decide))
theorem b195_131 {d : Nat} {S : mm_S} {a0 : Nat} {x1 : Int32} {x2 : Int32} {x3 : Int32} {x4 : Int32} (h0 : mm_rk S a0 = 12) : mm_ex (d + 1) 195 131 [.ref a0, .int x1, .int x2, .int x3, .int x4] [] S =
    mm_bd (mm_cl d 172 [.ref a0] S) (fun v S2 => mm_ex (d + 1) 195 135 [.ref a0, .int x1, .int x2, .int x3, .int x4] (v.toList ++ []) S2) :=
  Eq.trans (mx_aload_n t195 d195_131 (x := a0) rfl) <|
  (mx_virt (st := []) (k := 12) t195 [] d195_132 vt12_317 rfl rfl (Nat.le_of_ble_eq_true rfl) (Nat.le_of_ble_eq_true rfl) h0)
theorem b195_135 {d : Nat} {S : mm_S} {a0 : Nat} {x1 : Int32} {x2 : Int32} {x3 : Int32} {x4 : Int32} : mm_ex d 195 135 [.ref a0, .int x1, .int x2, .int x3, .int x4] [] S =
    some (some (.int x3), S) :=
  Eq.trans (mx_iload_n t195 d195_135 (x := x3) rfl) <|
  (mx_iret t195 d195_136 (ty := .int) rfl rfl (fun h => nomatch h))
theorem e195 {d : Nat} {S : mm_S} {a0 : Nat} {x1 : Int32} {x2 : Int32} : mm_cl d 195 [.ref a0, .int x1, .int x2] S = mm_ex d 195 0 [.ref a0, .int x1, .int x2, .null, .null] [] S := mm_cl_eq t195 (Nat.le_of_ble_eq_true rfl) rfl
/-! X12_image -/
theorem dd196_0 : (decode prog_14_method_71_code 0 = .ok (.aload_n 0, 1)) ∧ (decode prog_14_method_71_code 1 = .ok (.iconst 1, 1)) ∧ (decode prog_14_method_71_code 2 = .ok (.putfield 371, 3)) ∧ (decode prog_14_method_71_code 5 = .ok (.aload_n 0, 1)) ∧ (decode prog_14_method_71_code 6 = .ok (.aload_n 0, 1)) ∧ (decode prog_14_method_71_code 7 = .ok (.getfield 159, 3)) ∧ (decode prog_14_method_71_code 10 = .ok (.putfield 374, 3)) ∧ (decode prog_14_method_71_code 13 = .ok (.aload_n 0, 1)) ∧ (decode prog_14_method_71_code 14 = .ok (.aload_n 0, 1)) ∧ (decode prog_14_method_71_code 15 = .ok (.getfield 340, 3)) ∧ (decode prog_14_method_71_code 18 = .ok (.putfield 377, 3)) ∧ (decode prog_14_method_71_code 21 = .ok (.aload_n 0, 1)) ∧ (decode prog_14_method_71_code 22 = .ok (.aload_n 0, 1)) ∧ (decode prog_14_method_71_code 23 = .ok (.getfield 365, 3)) ∧ (decode prog_14_method_71_code 26 = .ok (.putfield 380, 3)) ∧ (decode prog_14_method_71_code 29 = .ok (.aload_n 0, 1)) := by decide +kernel
theorem d196_0 : decode prog_14_method_71_code 0 = .ok (.aload_n 0, 1) := dd196_0.1
theorem d196_1 : decode prog_14_method_71_code 1 = .ok (.iconst 1, 1) := dd196_0.2.1
theorem d196_2 : decode prog_14_method_71_code 2 = .ok (.putfield 371, 3) := dd196_0.2.2.1
theorem d196_5 : decode prog_14_method_71_code 5 = .ok (.aload_n 0, 1) := dd196_0.2.2.2.1
theorem d196_6 : decode prog_14_method_71_code 6 = .ok (.aload_n 0, 1) := dd196_0.2.2.2.2.1
theorem d196_7 : decode prog_14_method_71_code 7 = .ok (.getfield 159, 3) := dd196_0.2.2.2.2.2.1
theorem d196_10 : decode prog_14_method_71_code 10 = .ok (.putfield 374, 3) := dd196_0.2.2.2.2.2.2.1
theorem d196_13 : decode prog_14_method_71_code 13 = .ok (.aload_n 0, 1) := dd196_0.2.2.2.2.2.2.2.1
theorem d196_14 : decode prog_14_method_71_code 14 = .ok (.aload_n 0, 1) := dd196_0.2.2.2.2.2.2.2.2.1
theorem d196_15 : decode prog_14_method_71_code 15 = .ok (.getfield 340, 3) := dd196_0.2.2.2.2.2.2.2.2.2.1
theorem d196_18 : decode prog_14_method_71_code 18 = .ok (.putfield 377, 3) := dd196_0.2.2.2.2.2.2.2.2.2.2.1
theorem d196_21 : decode prog_14_method_71_code 21 = .ok (.aload_n 0, 1) := dd196_0.2.2.2.2.2.2.2.2.2.2.2.1
theorem d196_22 : decode prog_14_method_71_code 22 = .ok (.aload_n 0, 1) := dd196_0.2.2.2.2.2.2.2.2.2.2.2.2.1
theorem d196_23 : decode prog_14_method_71_code 23 = .ok (.getfield 365, 3) := dd196_0.2.2.2.2.2.2.2.2.2.2.2.2.2.1
theorem d196_26 : decode prog_14_method_71_code 26 = .ok (.putfield 380, 3) := dd196_0.2.2.2.2.2.2.2.2.2.2.2.2.2.2.1
theorem d196_29 : decode prog_14_method_71_code 29 = .ok (.aload_n 0, 1) := dd196_0.2.2.2.2.2.2.2.2.2.2.2.2.2.2.2
theorem dd196_30 : (decode prog_14_method_71_code 30 = .ok (.aload_n 0, 1)) ∧ (decode prog_14_method_71_code 31 = .ok (.getfield 46, 3)) ∧ (decode prog_14_method_71_code 34 = .ok (.putfield 383, 3)) ∧ (decode prog_14_method_71_code 37 = .ok (.iconst 0, 1)) ∧ (decode prog_14_method_71_code 38 = .ok (.istore_n 1, 1)) ∧ (decode prog_14_method_71_code 39 = .ok (.iload_n 1, 1)) ∧ (decode prog_14_method_71_code 40 = .ok (.bipush 6, 2)) ∧ (decode prog_14_method_71_code 42 = .ok (.if_icmp .ge 93, 3)) ∧ (decode prog_14_method_71_code 45 = .ok (.aload_n 0, 1)) ∧ (decode prog_14_method_71_code 46 = .ok (.getfield 126, 3)) ∧ (decode prog_14_method_71_code 49 = .ok (.iload_n 1, 1)) ∧ (decode prog_14_method_71_code 50 = .ok (.aload_n 0, 1)) ∧ (decode prog_14_method_71_code 51 = .ok (.getfield 9, 3)) ∧ (decode prog_14_method_71_code 54 = .ok (.iload_n 1, 1)) ∧ (decode prog_14_method_71_code 55 = .ok (.iaload, 1)) ∧ (decode prog_14_method_71_code 56 = .ok (.iastore, 1)) := by decide +kernel
theorem d196_30 : decode prog_14_method_71_code 30 = .ok (.aload_n 0, 1) := dd196_30.1
theorem d196_31 : decode prog_14_method_71_code 31 = .ok (.getfield 46, 3) := dd196_30.2.1
theorem d196_34 : decode prog_14_method_71_code 34 = .ok (.putfield 383, 3) := dd196_30.2.2.1
theorem d196_37 : decode prog_14_method_71_code 37 = .ok (.iconst 0, 1) := dd196_30.2.2.2.1
theorem d196_38 : decode prog_14_method_71_code 38 = .ok (.istore_n 1, 1) := dd196_30.2.2.2.2.1
theorem d196_39 : decode prog_14_method_71_code 39 = .ok (.iload_n 1, 1) := dd196_30.2.2.2.2.2.1
theorem d196_40 : decode prog_14_method_71_code 40 = .ok (.bipush 6, 2) := dd196_30.2.2.2.2.2.2.1
theorem d196_42 : decode prog_14_method_71_code 42 = .ok (.if_icmp .ge 93, 3) := dd196_30.2.2.2.2.2.2.2.1
theorem d196_45 : decode prog_14_method_71_code 45 = .ok (.aload_n 0, 1) := dd196_30.2.2.2.2.2.2.2.2.1
theorem d196_46 : decode prog_14_method_71_code 46 = .ok (.getfield 126, 3) := dd196_30.2.2.2.2.2.2.2.2.2.1
theorem d196_49 : decode prog_14_method_71_code 49 = .ok (.iload_n 1, 1) := dd196_30.2.2.2.2.2.2.2.2.2.2.1
theorem d196_50 : decode prog_14_method_71_code 50 = .ok (.aload_n 0, 1) := dd196_30.2.2.2.2.2.2.2.2.2.2.2.1
theorem d196_51 : decode prog_14_method_71_code 51 = .ok (.getfield 9, 3) := dd196_30.2.2.2.2.2.2.2.2.2.2.2.2.1
theorem d196_54 : decode prog_14_method_71_code 54 = .ok (.iload_n 1, 1) := dd196_30.2.2.2.2.2.2.2.2.2.2.2.2.2.1
theorem d196_55 : decode prog_14_method_71_code 55 = .ok (.iaload, 1) := dd196_30.2.2.2.2.2.2.2.2.2.2.2.2.2.2.1
theorem d196_56 : decode prog_14_method_71_code 56 = .ok (.iastore, 1) := dd196_30.2.2.2.2.2.2.2.2.2.2.2.2.2.2.2
theorem dd196_57 : (decode prog_14_method_71_code 57 = .ok (.aload_n 0, 1)) ∧ (decode prog_14_method_71_code 58 = .ok (.getfield 129, 3)) ∧ (decode prog_14_method_71_code 61 = .ok (.iload_n 1, 1)) ∧ (decode prog_14_method_71_code 62 = .ok (.aload_n 0, 1)) ∧ (decode prog_14_method_71_code 63 = .ok (.getfield 15, 3)) ∧ (decode prog_14_method_71_code 66 = .ok (.iload_n 1, 1)) ∧ (decode prog_14_method_71_code 67 = .ok (.iaload, 1)) ∧ (decode prog_14_method_71_code 68 = .ok (.iastore, 1)) ∧ (decode prog_14_method_71_code 69 = .ok (.aload_n 0, 1)) ∧ (decode prog_14_method_71_code 70 = .ok (.getfield 132, 3)) ∧ (decode prog_14_method_71_code 73 = .ok (.iload_n 1, 1)) ∧ (decode prog_14_method_71_code 74 = .ok (.aload_n 0, 1)) ∧ (decode prog_14_method_71_code 75 = .ok (.getfield 18, 3)) ∧ (decode prog_14_method_71_code 78 = .ok (.iload_n 1, 1)) ∧ (decode prog_14_method_71_code 79 = .ok (.iaload, 1)) ∧ (decode prog_14_method_71_code 80 = .ok (.iastore, 1)) := by decide +kernel
theorem d196_57 : decode prog_14_method_71_code 57 = .ok (.aload_n 0, 1) := dd196_57.1
theorem d196_58 : decode prog_14_method_71_code 58 = .ok (.getfield 129, 3) := dd196_57.2.1
theorem d196_61 : decode prog_14_method_71_code 61 = .ok (.iload_n 1, 1) := dd196_57.2.2.1
theorem d196_62 : decode prog_14_method_71_code 62 = .ok (.aload_n 0, 1) := dd196_57.2.2.2.1
theorem d196_63 : decode prog_14_method_71_code 63 = .ok (.getfield 15, 3) := dd196_57.2.2.2.2.1
theorem d196_66 : decode prog_14_method_71_code 66 = .ok (.iload_n 1, 1) := dd196_57.2.2.2.2.2.1
theorem d196_67 : decode prog_14_method_71_code 67 = .ok (.iaload, 1) := dd196_57.2.2.2.2.2.2.1
theorem d196_68 : decode prog_14_method_71_code 68 = .ok (.iastore, 1) := dd196_57.2.2.2.2.2.2.2.1
theorem d196_69 : decode prog_14_method_71_code 69 = .ok (.aload_n 0, 1) := dd196_57.2.2.2.2.2.2.2.2.1
theorem d196_70 : decode prog_14_method_71_code 70 = .ok (.getfield 132, 3) := dd196_57.2.2.2.2.2.2.2.2.2.1
theorem d196_73 : decode prog_14_method_71_code 73 = .ok (.iload_n 1, 1) := dd196_57.2.2.2.2.2.2.2.2.2.2.1
theorem d196_74 : decode prog_14_method_71_code 74 = .ok (.aload_n 0, 1) := dd196_57.2.2.2.2.2.2.2.2.2.2.2.1
theorem d196_75 : decode prog_14_method_71_code 75 = .ok (.getfield 18, 3) := dd196_57.2.2.2.2.2.2.2.2.2.2.2.2.1
theorem d196_78 : decode prog_14_method_71_code 78 = .ok (.iload_n 1, 1) := dd196_57.2.2.2.2.2.2.2.2.2.2.2.2.2.1
theorem d196_79 : decode prog_14_method_71_code 79 = .ok (.iaload, 1) := dd196_57.2.2.2.2.2.2.2.2.2.2.2.2.2.2.1
theorem d196_80 : decode prog_14_method_71_code 80 = .ok (.iastore, 1) := dd196_57.2.2.2.2.2.2.2.2.2.2.2.2.2.2.2
theorem dd196_81 : (decode prog_14_method_71_code 81 = .ok (.aload_n 0, 1)) ∧ (decode prog_14_method_71_code 82 = .ok (.getfield 135, 3)) ∧ (decode prog_14_method_71_code 85 = .ok (.iload_n 1, 1)) ∧ (decode prog_14_method_71_code 86 = .ok (.aload_n 0, 1)) ∧ (decode prog_14_method_71_code 87 = .ok (.getfield 21, 3)) ∧ (decode prog_14_method_71_code 90 = .ok (.iload_n 1, 1)) ∧ (decode prog_14_method_71_code 91 = .ok (.iaload, 1)) ∧ (decode prog_14_method_71_code 92 = .ok (.iastore, 1)) ∧ (decode prog_14_method_71_code 93 = .ok (.aload_n 0, 1)) ∧ (decode prog_14_method_71_code 94 = .ok (.getfield 138, 3)) ∧ (decode prog_14_method_71_code 97 = .ok (.iload_n 1, 1)) ∧ (decode prog_14_method_71_code 98 = .ok (.aload_n 0, 1)) ∧ (decode prog_14_method_71_code 99 = .ok (.getfield 24, 3)) ∧ (decode prog_14_method_71_code 102 = .ok (.iload_n 1, 1)) ∧ (decode prog_14_method_71_code 103 = .ok (.iaload, 1)) ∧ (decode prog_14_method_71_code 104 = .ok (.iastore, 1)) := by decide +kernel
theorem d196_81 : decode prog_14_method_71_code 81 = .ok (.aload_n 0, 1) := dd196_81.1
theorem d196_82 : decode prog_14_method_71_code 82 = .ok (.getfield 135, 3) := dd196_81.2.1
theorem d196_85 : decode prog_14_method_71_code 85 = .ok (.iload_n 1, 1) := dd196_81.2.2.1
theorem d196_86 : decode prog_14_method_71_code 86 = .ok (.aload_n 0, 1) := dd196_81.2.2.2.1
theorem d196_87 : decode prog_14_method_71_code 87 = .ok (.getfield 21, 3) := dd196_81.2.2.2.2.1
theorem d196_90 : decode prog_14_method_71_code 90 = .ok (.iload_n 1, 1) := dd196_81.2.2.2.2.2.1
theorem d196_91 : decode prog_14_method_71_code 91 = .ok (.iaload, 1) := dd196_81.2.2.2.2.2.2.1
theorem d196_92 : decode prog_14_method_71_code 92 = .ok (.iastore, 1) := dd196_81.2.2.2.2.2.2.2.1
theorem d196_93 : decode prog_14_method_71_code 93 = .ok (.aload_n 0, 1) := dd196_81.2.2.2.2.2.2.2.2.1
theorem d196_94 : decode prog_14_method_71_code 94 = .ok (.getfield 138, 3) := dd196_81.2.2.2.2.2.2.2.2.2.1
theorem d196_97 : decode prog_14_method_71_code 97 = .ok (.iload_n 1, 1) := dd196_81.2.2.2.2.2.2.2.2.2.2.1
theorem d196_98 : decode prog_14_method_71_code 98 = .ok (.aload_n 0, 1) := dd196_81.2.2.2.2.2.2.2.2.2.2.2.1
theorem d196_99 : decode prog_14_method_71_code 99 = .ok (.getfield 24, 3) := dd196_81.2.2.2.2.2.2.2.2.2.2.2.2.1
theorem d196_102 : decode prog_14_method_71_code 102 = .ok (.iload_n 1, 1) := dd196_81.2.2.2.2.2.2.2.2.2.2.2.2.2.1
theorem d196_103 : decode prog_14_method_71_code 103 = .ok (.iaload, 1) := dd196_81.2.2.2.2.2.2.2.2.2.2.2.2.2.2.1
theorem d196_104 : decode prog_14_method_71_code 104 = .ok (.iastore, 1) := dd196_81.2.2.2.2.2.2.2.2.2.2.2.2.2.2.2
theorem dd196_105 : (decode prog_14_method_71_code 105 = .ok (.aload_n 0, 1)) ∧ (decode prog_14_method_71_code 106 = .ok (.getfield 141, 3)) ∧ (decode prog_14_method_71_code 109 = .ok (.iload_n 1, 1)) ∧ (decode prog_14_method_71_code 110 = .ok (.aload_n 0, 1)) ∧ (decode prog_14_method_71_code 111 = .ok (.getfield 27, 3)) ∧ (decode prog_14_method_71_code 114 = .ok (.iload_n 1, 1)) ∧ (decode prog_14_method_71_code 115 = .ok (.iaload, 1)) ∧ (decode prog_14_method_71_code 116 = .ok (.iastore, 1)) ∧ (decode prog_14_method_71_code 117 = .ok (.aload_n 0, 1)) ∧ (decode prog_14_method_71_code 118 = .ok (.getfield 147, 3)) ∧ (decode prog_14_method_71_code 121 = .ok (.iload_n 1, 1)) ∧ (decode prog_14_method_71_code 122 = .ok (.aload_n 0, 1)) ∧ (decode prog_14_method_71_code 123 = .ok (.getfield 33, 3)) ∧ (decode prog_14_method_71_code 126 = .ok (.iload_n 1, 1)) ∧ (decode prog_14_method_71_code 127 = .ok (.iaload, 1)) ∧ (decode prog_14_method_71_code 128 = .ok (.iastore, 1)) := by decide +kernel
theorem d196_105 : decode prog_14_method_71_code 105 = .ok (.aload_n 0, 1) := dd196_105.1
theorem d196_106 : decode prog_14_method_71_code 106 = .ok (.getfield 141, 3) := dd196_105.2.1
theorem d196_109 : decode prog_14_method_71_code 109 = .ok (.iload_n 1, 1) := dd196_105.2.2.1
theorem d196_110 : decode prog_14_method_71_code 110 = .ok (.aload_n 0, 1) := dd196_105.2.2.2.1
theorem d196_111 : decode prog_14_method_71_code 111 = .ok (.getfield 27, 3) := dd196_105.2.2.2.2.1
theorem d196_114 : decode prog_14_method_71_code 114 = .ok (.iload_n 1, 1) := dd196_105.2.2.2.2.2.1
theorem d196_115 : decode prog_14_method_71_code 115 = .ok (.iaload, 1) := dd196_105.2.2.2.2.2.2.1
theorem d196_116 : decode prog_14_method_71_code 116 = .ok (.iastore, 1) := dd196_105.2.2.2.2.2.2.2.1
theorem d196_117 : decode prog_14_method_71_code 117 = .ok (.aload_n 0, 1) := dd196_105.2.2.2.2.2.2.2.2.1
theorem d196_118 : decode prog_14_method_71_code 118 = .ok (.getfield 147, 3) := dd196_105.2.2.2.2.2.2.2.2.2.1
theorem d196_121 : decode prog_14_method_71_code 121 = .ok (.iload_n 1, 1) := dd196_105.2.2.2.2.2.2.2.2.2.2.1
theorem d196_122 : decode prog_14_method_71_code 122 = .ok (.aload_n 0, 1) := dd196_105.2.2.2.2.2.2.2.2.2.2.2.1
theorem d196_123 : decode prog_14_method_71_code 123 = .ok (.getfield 33, 3) := dd196_105.2.2.2.2.2.2.2.2.2.2.2.2.1
theorem d196_126 : decode prog_14_method_71_code 126 = .ok (.iload_n 1, 1) := dd196_105.2.2.2.2.2.2.2.2.2.2.2.2.2.1
theorem d196_127 : decode prog_14_method_71_code 127 = .ok (.iaload, 1) := dd196_105.2.2.2.2.2.2.2.2.2.2.2.2.2.2.1
theorem d196_128 : decode prog_14_method_71_code 128 = .ok (.iastore, 1) := dd196_105.2.2.2.2.2.2.2.2.2.2.2.2.2.2.2
theorem dd196_129 : (decode prog_14_method_71_code 129 = .ok (.iinc 1 1, 3)) ∧ (decode prog_14_method_71_code 132 = .ok (.goto (-93), 3)) ∧ (decode prog_14_method_71_code 135 = .ok (.iconst 0, 1)) ∧ (decode prog_14_method_71_code 136 = .ok (.istore_n 1, 1)) ∧ (decode prog_14_method_71_code 137 = .ok (.iload_n 1, 1)) ∧ (decode prog_14_method_71_code 138 = .ok (.bipush 18, 2)) ∧ (decode prog_14_method_71_code 140 = .ok (.if_icmp .ge 21, 3)) ∧ (decode prog_14_method_71_code 143 = .ok (.aload_n 0, 1)) ∧ (decode prog_14_method_71_code 144 = .ok (.getfield 144, 3)) ∧ (decode prog_14_method_71_code 147 = .ok (.iload_n 1, 1)) ∧ (decode prog_14_method_71_code 148 = .ok (.aload_n 0, 1)) ∧ (decode prog_14_method_71_code 149 = .ok (.getfield 30, 3)) ∧ (decode prog_14_method_71_code 152 = .ok (.iload_n 1, 1)) ∧ (decode prog_14_method_71_code 153 = .ok (.iaload, 1)) ∧ (decode prog_14_method_71_code 154 = .ok (.iastore, 1)) ∧ (decode prog_14_method_71_code 155 = .ok (.iinc 1 1, 3)) := by decide +kernel
theorem d196_129 : decode prog_14_method_71_code 129 = .ok (.iinc 1 1, 3) := dd196_129.1
theorem d196_132 : decode prog_14_method_71_code 132 = .ok (.goto (-93), 3) := dd196_129.2.1
theorem d196_135 : decode prog_14_method_71_code 135 = .ok (.iconst 0, 1) := dd196_129.2.2.1
theorem d196_136 : decode prog_14_method_71_code 136 = .ok (.istore_n 1, 1) := dd196_129.2.2.2.1
theorem d196_137 : decode prog_14_method_71_code 137 = .ok (.iload_n 1, 1) := dd196_129.2.2.2.2.1
theorem d196_138 : decode prog_14_method_71_code 138 = .ok (.bipush 18, 2) := dd196_129.2.2.2.2.2.1
theorem d196_140 : decode prog_14_method_71_code 140 = .ok (.if_icmp .ge 21, 3) := dd196_129.2.2.2.2.2.2.1
theorem d196_143 : decode prog_14_method_71_code 143 = .ok (.aload_n 0, 1) := dd196_129.2.2.2.2.2.2.2.1
theorem d196_144 : decode prog_14_method_71_code 144 = .ok (.getfield 144, 3) := dd196_129.2.2.2.2.2.2.2.2.1
theorem d196_147 : decode prog_14_method_71_code 147 = .ok (.iload_n 1, 1) := dd196_129.2.2.2.2.2.2.2.2.2.1
theorem d196_148 : decode prog_14_method_71_code 148 = .ok (.aload_n 0, 1) := dd196_129.2.2.2.2.2.2.2.2.2.2.1
theorem d196_149 : decode prog_14_method_71_code 149 = .ok (.getfield 30, 3) := dd196_129.2.2.2.2.2.2.2.2.2.2.2.1
theorem d196_152 : decode prog_14_method_71_code 152 = .ok (.iload_n 1, 1) := dd196_129.2.2.2.2.2.2.2.2.2.2.2.2.1
theorem d196_153 : decode prog_14_method_71_code 153 = .ok (.iaload, 1) := dd196_129.2.2.2.2.2.2.2.2.2.2.2.2.2.1
theorem d196_154 : decode prog_14_method_71_code 154 = .ok (.iastore, 1) := dd196_129.2.2.2.2.2.2.2.2.2.2.2.2.2.2.1
theorem d196_155 : decode prog_14_method_71_code 155 = .ok (.iinc 1 1, 3) := dd196_129.2.2.2.2.2.2.2.2.2.2.2.2.2.2.2
theorem dd196_158 : (decode prog_14_method_71_code 158 = .ok (.goto (-21), 3)) ∧ (decode prog_14_method_71_code 161 = .ok (.iconst 0, 1)) ∧ (decode prog_14_method_71_code 162 = .ok (.istore_n 1, 1)) ∧ (decode prog_14_method_71_code 163 = .ok (.iload_n 1, 1)) ∧ (decode prog_14_method_71_code 164 = .ok (.bipush 12, 2)) ∧ (decode prog_14_method_71_code 166 = .ok (.if_icmp .ge 21, 3)) ∧ (decode prog_14_method_71_code 169 = .ok (.aload_n 0, 1)) ∧ (decode prog_14_method_71_code 170 = .ok (.getfield 153, 3)) ∧ (decode prog_14_method_71_code 173 = .ok (.iload_n 1, 1)) ∧ (decode prog_14_method_71_code 174 = .ok (.aload_n 0, 1)) ∧ (decode prog_14_method_71_code 175 = .ok (.getfield 43, 3)) ∧ (decode prog_14_method_71_code 178 = .ok (.iload_n 1, 1)) ∧ (decode prog_14_method_71_code 179 = .ok (.iaload, 1)) ∧ (decode prog_14_method_71_code 180 = .ok (.iastore, 1)) ∧ (decode prog_14_method_71_code 181 = .ok (.iinc 1 1, 3)) ∧ (decode prog_14_method_71_code 184 = .ok (.goto (-21), 3)) := by decide +kernel
theorem d196_158 : decode prog_14_method_71_code 158 = .ok (.goto (-21), 3) := dd196_158.1
theorem d196_161 : decode prog_14_method_71_code 161 = .ok (.iconst 0, 1) := dd196_158.2.1
theorem d196_162 : decode prog_14_method_71_code 162 = .ok (.istore_n 1, 1) := dd196_158.2.2.1
theorem d196_163 : decode prog_14_method_71_code 163 = .ok (.iload_n 1, 1) := dd196_158.2.2.2.1
theorem d196_164 : decode prog_14_method_71_code 164 = .ok (.bipush 12, 2) := dd196_158.2.2.2.2.1
theorem d196_166 : decode prog_14_method_71_code 166 = .ok (.if_icmp .ge 21, 3) := dd196_158.2.2.2.2.2.1
theorem d196_169 : decode prog_14_method_71_code 169 = .ok (.aload_n 0, 1) := dd196_158.2.2.2.2.2.2.1
theorem d196_170 : decode prog_14_method_71_code 170 = .ok (.getfield 153, 3) := dd196_158.2.2.2.2.2.2.2.1
theorem d196_173 : decode prog_14_method_71_code 173 = .ok (.iload_n 1, 1) := dd196_158.2.2.2.2.2.2.2.2.1
theorem d196_174 : decode prog_14_method_71_code 174 = .ok (.aload_n 0, 1) := dd196_158.2.2.2.2.2.2.2.2.2.1
theorem d196_175 : decode prog_14_method_71_code 175 = .ok (.getfield 43, 3) := dd196_158.2.2.2.2.2.2.2.2.2.2.1
theorem d196_178 : decode prog_14_method_71_code 178 = .ok (.iload_n 1, 1) := dd196_158.2.2.2.2.2.2.2.2.2.2.2.1
theorem d196_179 : decode prog_14_method_71_code 179 = .ok (.iaload, 1) := dd196_158.2.2.2.2.2.2.2.2.2.2.2.2.1
theorem d196_180 : decode prog_14_method_71_code 180 = .ok (.iastore, 1) := dd196_158.2.2.2.2.2.2.2.2.2.2.2.2.2.1
theorem d196_181 : decode prog_14_method_71_code 181 = .ok (.iinc 1 1, 3) := dd196_158.2.2.2.2.2.2.2.2.2.2.2.2.2.2.1
theorem d196_184 : decode prog_14_method_71_code 184 = .ok (.goto (-21), 3) := dd196_158.2.2.2.2.2.2.2.2.2.2.2.2.2.2.2
theorem dd196_187 : (decode prog_14_method_71_code 187 = .ok (.aload_n 0, 1)) ∧ (decode prog_14_method_71_code 188 = .ok (.getfield 150, 3)) ∧ (decode prog_14_method_71_code 191 = .ok (.iconst 0, 1)) ∧ (decode prog_14_method_71_code 192 = .ok (.aload_n 0, 1)) ∧ (decode prog_14_method_71_code 193 = .ok (.getfield 166, 3)) ∧ (decode prog_14_method_71_code 196 = .ok (.iastore, 1)) ∧ (decode prog_14_method_71_code 197 = .ok (.aload_n 0, 1)) ∧ (decode prog_14_method_71_code 198 = .ok (.getfield 150, 3)) ∧ (decode prog_14_method_71_code 201 = .ok (.iconst 1, 1)) ∧ (decode prog_14_method_71_code 202 = .ok (.aload_n 0, 1)) ∧ (decode prog_14_method_71_code 203 = .ok (.getfield 36, 3)) ∧ (decode prog_14_method_71_code 206 = .ok (.iastore, 1)) ∧ (decode prog_14_method_71_code 207 = .ok (.aload_n 0, 1)) ∧ (decode prog_14_method_71_code 208 = .ok (.getfield 150, 3)) ∧ (decode prog_14_method_71_code 211 = .ok (.iconst 2, 1)) ∧ (decode prog_14_method_71_code 212 = .ok (.aload_n 0, 1)) := by decide +kernel
theorem d196_187 : decode prog_14_method_71_code 187 = .ok (.aload_n 0, 1) := dd196_187.1
theorem d196_188 : decode prog_14_method_71_code 188 = .ok (.getfield 150, 3) := dd196_187.2.1
theorem d196_191 : decode prog_14_method_71_code 191 = .ok (.iconst 0, 1) := dd196_187.2.2.1
theorem d196_192 : decode prog_14_method_71_code 192 = .ok (.aload_n 0, 1) := dd196_187.2.2.2.1
theorem d196_193 : decode prog_14_method_71_code 193 = .ok (.getfield 166, 3) := dd196_187.2.2.2.2.1
theorem d196_196 : decode prog_14_method_71_code 196 = .ok (.iastore, 1) := dd196_187.2.2.2.2.2.1
theorem d196_197 : decode prog_14_method_71_code 197 = .ok (.aload_n 0, 1) := dd196_187.2.2.2.2.2.2.1
theorem d196_198 : decode prog_14_method_71_code 198 = .ok (.getfield 150, 3) := dd196_187.2.2.2.2.2.2.2.1
theorem d196_201 : decode prog_14_method_71_code 201 = .ok (.iconst 1, 1) := dd196_187.2.2.2.2.2.2.2.2.1
theorem d196_202 : decode prog_14_method_71_code 202 = .ok (.aload_n 0, 1) := dd196_187.2.2.2.2.2.2.2.2.2.1
theorem d196_203 : decode prog_14_method_71_code 203 = .ok (.getfield 36, 3) := dd196_187.2.2.2.2.2.2.2.2.2.2.1
theorem d196_206 : decode prog_14_method_71_code 206 = .ok (.iastore, 1) := dd196_187.2.2.2.2.2.2.2.2.2.2.2.1
theorem d196_207 : decode prog_14_method_71_code 207 = .ok (.aload_n 0, 1) := dd196_187.2.2.2.2.2.2.2.2.2.2.2.2.1
theorem d196_208 : decode prog_14_method_71_code 208 = .ok (.getfield 150, 3) := dd196_187.2.2.2.2.2.2.2.2.2.2.2.2.2.1
theorem d196_211 : decode prog_14_method_71_code 211 = .ok (.iconst 2, 1) := dd196_187.2.2.2.2.2.2.2.2.2.2.2.2.2.2.1
theorem d196_212 : decode prog_14_method_71_code 212 = .ok (.aload_n 0, 1) := dd196_187.2.2.2.2.2.2.2.2.2.2.2.2.2.2.2
theorem dd196_213 : (decode prog_14_method_71_code 213 = .ok (.getfield 40, 3)) ∧ (decode prog_14_method_71_code 216 = .ok (.iastore, 1)) ∧ (decode prog_14_method_71_code 217 = .ok (.aload_n 0, 1)) ∧ (decode prog_14_method_71_code 218 = .ok (.getfield 150, 3)) ∧ (decode prog_14_method_71_code 221 = .ok (.iconst 3, 1)) ∧ (decode prog_14_method_71_code 222 = .ok (.aload_n 0, 1)) ∧ (decode prog_14_method_71_code 223 = .ok (.getfield 257, 3)) ∧ (decode prog_14_method_71_code 226 = .ok (.iastore, 1)) ∧ (decode prog_14_method_71_code 227 = .ok (.aload_n 0, 1)) ∧ (decode prog_14_method_71_code 228 = .ok (.getfield 150, 3)) ∧ (decode prog_14_method_71_code 231 = .ok (.iconst 4, 1)) ∧ (decode prog_14_method_71_code 232 = .ok (.aload_n 0, 1)) ∧ (decode prog_14_method_71_code 233 = .ok (.getfield 260, 3)) ∧ (decode prog_14_method_71_code 236 = .ok (.iastore, 1)) ∧ (decode prog_14_method_71_code 237 = .ok (.aload_n 0, 1)) ∧ (decode prog_14_method_71_code 238 = .ok (.getfield 159, 3)) := by decide +kernel
theorem d196_213 : decode prog_14_method_71_code 213 = .ok (.getfield 40, 3) := dd196_213.1
theorem d196_216 : decode prog_14_method_71_code 216 = .ok (.iastore, 1) := dd196_213.2.1
theorem d196_217 : decode prog_14_method_71_code 217 = .ok (.aload_n 0, 1) := dd196_213.2.2.1
theorem d196_218 : decode prog_14_method_71_code 218 = .ok (.getfield 150, 3) := dd196_213.2.2.2.1
theorem d196_221 : decode prog_14_method_71_code 221 = .ok (.iconst 3, 1) := dd196_213.2.2.2.2.1
theorem d196_222 : decode prog_14_method_71_code 222 = .ok (.aload_n 0, 1) := dd196_213.2.2.2.2.2.1
theorem d196_223 : decode prog_14_method_71_code 223 = .ok (.getfield 257, 3) := dd196_213.2.2.2.2.2.2.1
theorem d196_226 : decode prog_14_method_71_code 226 = .ok (.iastore, 1) := dd196_213.2.2.2.2.2.2.2.1
theorem d196_227 : decode prog_14_method_71_code 227 = .ok (.aload_n 0, 1) := dd196_213.2.2.2.2.2.2.2.2.1
theorem d196_228 : decode prog_14_method_71_code 228 = .ok (.getfield 150, 3) := dd196_213.2.2.2.2.2.2.2.2.2.1
theorem d196_231 : decode prog_14_method_71_code 231 = .ok (.iconst 4, 1) := dd196_213.2.2.2.2.2.2.2.2.2.2.1
theorem d196_232 : decode prog_14_method_71_code 232 = .ok (.aload_n 0, 1) := dd196_213.2.2.2.2.2.2.2.2.2.2.2.1
theorem d196_233 : decode prog_14_method_71_code 233 = .ok (.getfield 260, 3) := dd196_213.2.2.2.2.2.2.2.2.2.2.2.2.1
theorem d196_236 : decode prog_14_method_71_code 236 = .ok (.iastore, 1) := dd196_213.2.2.2.2.2.2.2.2.2.2.2.2.2.1
theorem d196_237 : decode prog_14_method_71_code 237 = .ok (.aload_n 0, 1) := dd196_213.2.2.2.2.2.2.2.2.2.2.2.2.2.2.1
theorem d196_238 : decode prog_14_method_71_code 238 = .ok (.getfield 159, 3) := dd196_213.2.2.2.2.2.2.2.2.2.2.2.2.2.2.2
theorem d196_241 : decode prog_14_method_71_code 241 = .ok (.ireturn, 1) := by decide +kernel
theorem b196_0 {d : Nat} {S : mm_S} {a0 : Nat} (h0 : mm_obj S a0 12 = true) : mm_ex d 196 0 [.ref a0, .null] [] S =
    mm_ex d 196 7 [.ref a0, .null] [.ref a0, .ref a0] (mm_uM S a0 59 (nI 1)) :=
  Eq.trans (mx_aload_n t196 d196_0 (x := a0) rfl) <|
  Eq.trans (mx_iconst t196 d196_1 (v := nI 1) rfl) <|
  Eq.trans (mx_putz2 t196 d196_2 fl12_371 rfl h0 (Or.inr rfl)) <|
  Eq.trans (mx_aload_n t196 d196_5 (x := a0) rfl) <|
  (mx_aload_n t196 d196_6 (x := a0) rfl)
theorem b196_7 {d : Nat} {S : mm_S} {a0 : Nat} {p0 : Nat} {p1 : Nat} (h0 : mm_obj S p0 12 = true) (h1 : mm_obj S p1 12 = true) : mm_ex d 196 7 [.ref a0, .null] [.ref p0, .ref p1] S =
    mm_ex d 196 15 [.ref a0, .null] [.ref a0, .ref a0] (mm_uM S p1 60 (mm_M S p0 0)) :=
  Eq.trans (mx_geti t196 d196_7 rfl fl12_159 h0) <|
  Eq.trans (mx_puti2 t196 d196_10 fl12_374 rfl h1) <|
  Eq.trans (mx_aload_n t196 d196_13 (x := a0) rfl) <|
  (mx_aload_n t196 d196_14 (x := a0) rfl)
theorem b196_15 {d : Nat} {S : mm_S} {a0 : Nat} {p0 : Nat} {p1 : Nat} (h0 : mm_obj S p0 12 = true) (h1 : mm_obj S p1 12 = true) : mm_ex d 196 15 [.ref a0, .null] [.ref p0, .ref p1] S =
    mm_ex d 196 23 [.ref a0, .null] [.ref a0, .ref a0] (mm_uM S p1 61 (mm_M S p0 14)) :=
  Eq.trans (mx_geti t196 d196_15 rfl fl12_340 h0) <|
  Eq.trans (mx_puti2 t196 d196_18 fl12_377 rfl h1) <|
  Eq.trans (mx_aload_n t196 d196_21 (x := a0) rfl) <|
  (mx_aload_n t196 d196_22 (x := a0) rfl)
theorem b196_23 {d : Nat} {S : mm_S} {a0 : Nat} {p0 : Nat} {p1 : Nat} (h0 : mm_obj S p0 12 = true) (h1 : mm_obj S p1 12 = true) : mm_ex d 196 23 [.ref a0, .null] [.ref p0, .ref p1] S =
    mm_ex d 196 31 [.ref a0, .null] [.ref a0, .ref a0] (mm_uM S p1 62 (mm_M S p0 15)) :=
  Eq.trans (mx_geti t196 d196_23 rfl fl12_365 h0) <|
  Eq.trans (mx_puti2 t196 d196_26 fl12_380 rfl h1) <|
  Eq.trans (mx_aload_n t196 d196_29 (x := a0) rfl) <|
  (mx_aload_n t196 d196_30 (x := a0) rfl)
theorem b196_31 {d : Nat} {S : mm_S} {a0 : Nat} {p0 : Nat} {p1 : Nat} (h0 : mm_obj S p0 12 = true) (h1 : mm_obj S p1 12 = true) : mm_ex d 196 31 [.ref a0, .null] [.ref p0, .ref p1] S =
    mm_ex d 196 39 [.ref a0, .int (nI 0)] [] (mm_uM S p1 63 (mm_M S p0 18)) :=
  Eq.trans (mx_geti t196 d196_31 rfl fl12_46 h0) <|
  Eq.trans (mx_puti2 t196 d196_34 fl12_383 rfl h1) <|
  Eq.trans (mx_iconst t196 d196_37 (v := nI 0) rfl) <|
  (mx_istore_n t196 d196_38 (ls' := [.ref a0, .int (nI 0)]) rfl rfl)
theorem b196_39 {d : Nat} {S : mm_S} {a0 : Nat} {x1 : Int32} : mm_ex d 196 39 [.ref a0, .int x1] [] S =
    if (nI 6) ≤ x1 then mm_ex d 196 135 [.ref a0, .int x1] [] S else mm_ex d 196 45 [.ref a0, .int x1] [] S :=
  Eq.trans (mx_iload_n t196 d196_39 (x := x1) rfl) <|
  Eq.trans (mx_bipush t196 d196_40 (v := nI 6) rfl) <|
  (mx_cge t196 d196_42 (tgt := 135) (by decide))
theorem b196_45 {d : Nat} {S : mm_S} {a0 : Nat} {x1 : Int32} (h0 : mm_obj S a0 12 = true) (h1 : (mm_R S a0 64).isSome = true) (h2 : (mm_R S a0 1).isSome = true) (h3 : mm_inb x1 (mm_N S (mm_rg S a0 1)) = true) (h4 : mm_arr S (mm_rg S a0 1) 13 = true) (h5 : mm_arr S (mm_rg S a0 64) 13 = true) (h6 : mm_inb x1 (mm_N S (mm_rg S a0 64)) = true) (h7 : (mm_R S a0 65).isSome = true) (h8 : (mm_R S a0 2).isSome = true) : mm_ex d 196 45 [.ref a0, .int x1] [] S =
    mm_ex d 196 67 [.ref a0, .int x1] [.int x1, .ref (mm_rg S a0 2), .int x1, .ref (mm_rg S a0 65)] (mm_uM S (mm_rg S a0 64) (x1).toNatClampNeg (mm_M S (mm_rg S a0 1) (x1).toNatClampNeg)) :=
  Eq.trans (mx_aload_n t196 d196_45 (x := a0) rfl) <|
  Eq.trans (mx_getR t196 d196_46 rfl fl12_126 h0 h1) <|
  Eq.trans (mx_iload_n t196 d196_49 (x := x1) rfl) <|
  Eq.trans (mx_aload_n t196 d196_50 (x := a0) rfl) <|
  Eq.trans (mx_getR t196 d196_51 rfl fl12_9 h0 h2) <|
  Eq.trans (mx_iload_n t196 d196_54 (x := x1) rfl) <|
  Eq.trans (mx_iald t196 d196_55 h4 h3) <|
  Eq.trans (mx_iast2 t196 d196_56 h5 h6) <|
  Eq.trans (mx_aload_n t196 d196_57 (x := a0) rfl) <|
  Eq.trans (mx_getR t196 d196_58 rfl fl12_129 h0 h7) <|
  Eq.trans (mx_iload_n t196 d196_61 (x := x1) rfl) <|
  Eq.trans (mx_aload_n t196 d196_62 (x := a0) rfl) <|
  Eq.trans (mx_getR t196 d196_63 rfl fl12_15 h0 h8) <|
  (mx_iload_n t196 d196_66 (x := x1) rfl)
theorem b196_67 {d : Nat} {S : mm_S} {a0 : Nat} {x1 : Int32} {p0 : Int32} {p1 : Nat} {p2 : Int32} {p3 : Nat} (h0 : mm_inb p0 (mm_N S p1) = true) (h1 : mm_arr S p1 13 = true) (h2 : mm_arr S p3 13 = true) (h3 : mm_inb p2 (mm_N S p3) = true) (h4 : mm_obj S a0 12 = true) (h5 : (mm_R S a0 66).isSome = true) (h6 : (mm_R S a0 3).isSome = true) : mm_ex d 196 67 [.ref a0, .int x1] [.int p0, .ref p1, .int p2, .ref p3] S =
    mm_ex d 196 79 [.ref a0, .int x1] [.int x1, .ref (mm_rg S a0 3), .int x1, .ref (mm_rg S a0 66)] (mm_uM S p3 (p2).toNatClampNeg (mm_M S p1 (p0).toNatClampNeg)) :=
  Eq.trans (mx_iald t196 d196_67 h1 h0) <|
  Eq.trans (mx_iast2 t196 d196_68 h2 h3) <|
  Eq.trans (mx_aload_n t196 d196_69 (x := a0) rfl) <|
  Eq.trans (mx_getR t196 d196_70 rfl fl12_132 h4 h5) <|
  Eq.trans (mx_iload_n t196 d196_73 (x := x1) rfl) <|
  Eq.trans (mx_aload_n t196 d196_74 (x := a0) rfl) <|
  Eq.trans (mx_getR t196 d196_75 rfl fl12_18 h4 h6) <|
  (mx_iload_n t196 d196_78 (x := x1) rfl)
theorem b196_79 {d : Nat} {S : mm_S} {a0 : Nat} {x1 : Int32} {p0 : Int32} {p1 : Nat} {p2 : Int32} {p3 : Nat} (h0 : mm_inb p0 (mm_N S p1) = true) (h1 : mm_arr S p1 13 = true) (h2 : mm_arr S p3 13 = true) (h3 : mm_inb p2 (mm_N S p3) = true) (h4 : mm_obj S a0 12 = true) (h5 : (mm_R S a0 67).isSome = true) (h6 : (mm_R S a0 4).isSome = true) : mm_ex d 196 79 [.ref a0, .int x1] [.int p0, .ref p1, .int p2, .ref p3] S =
    mm_ex d 196 91 [.ref a0, .int x1] [.int x1, .ref (mm_rg S a0 4), .int x1, .ref (mm_rg S a0 67)] (mm_uM S p3 (p2).toNatClampNeg (mm_M S p1 (p0).toNatClampNeg)) :=
  Eq.trans (mx_iald t196 d196_79 h1 h0) <|
  Eq.trans (mx_iast2 t196 d196_80 h2 h3) <|
  Eq.trans (mx_aload_n t196 d196_81 (x := a0) rfl) <|
  Eq.trans (mx_getR t196 d196_82 rfl fl12_135 h4 h5) <|
  Eq.trans (mx_iload_n t196 d196_85 (x := x1) rfl) <|
  Eq.trans (mx_aload_n t196 d196_86 (x := a0) rfl) <|
  Eq.trans (mx_getR t196 d196_87 rfl fl12_21 h4 h6) <|
  (mx_iload_n t196 d196_90 (x := x1) rfl)
theorem b196_91 {d : Nat} {S : mm_S} {a0 : Nat} {x1 : Int32} {p0 : Int32} {p1 : Nat} {p2 : Int32} {p3 : Nat} (h0 : mm_inb p0 (mm_N S p1) = true) (h1 : mm_arr S p1 13 = true) (h2 : mm_arr S p3 13 = true) (h3 : mm_inb p2 (mm_N S p3) = true) (h4 : mm_obj S a0 12 = true) (h5 : (mm_R S a0 68).isSome = true) (h6 : (mm_R S a0 5).isSome = true) : mm_ex d 196 91 [.ref a0, .int x1] [.int p0, .ref p1, .int p2, .ref p3] S =
    mm_ex d 196 103 [.ref a0, .int x1] [.int x1, .ref (mm_rg S a0 5), .int x1, .ref (mm_rg S a0 68)] (mm_uM S p3 (p2).toNatClampNeg (mm_M S p1 (p0).toNatClampNeg)) :=
  Eq.trans (mx_iald t196 d196_91 h1 h0) <|
  Eq.trans (mx_iast2 t196 d196_92 h2 h3) <|
  Eq.trans (mx_aload_n t196 d196_93 (x := a0) rfl) <|
  Eq.trans (mx_getR t196 d196_94 rfl fl12_138 h4 h5) <|
  Eq.trans (mx_iload_n t196 d196_97 (x := x1) rfl) <|
  Eq.trans (mx_aload_n t196 d196_98 (x := a0) rfl) <|
  Eq.trans (mx_getR t196 d196_99 rfl fl12_24 h4 h6) <|
  (mx_iload_n t196 d196_102 (x := x1) rfl)
theorem b196_103 {d : Nat} {S : mm_S} {a0 : Nat} {x1 : Int32} {p0 : Int32} {p1 : Nat} {p2 : Int32} {p3 : Nat} (h0 : mm_inb p0 (mm_N S p1) = true) (h1 : mm_arr S p1 13 = true) (h2 : mm_arr S p3 13 = true) (h3 : mm_inb p2 (mm_N S p3) = true) (h4 : mm_obj S a0 12 = true) (h5 : (mm_R S a0 69).isSome = true) (h6 : (mm_R S a0 6).isSome = true) : mm_ex d 196 103 [.ref a0, .int x1] [.int p0, .ref p1, .int p2, .ref p3] S =
    mm_ex d 196 115 [.ref a0, .int x1] [.int x1, .ref (mm_rg S a0 6), .int x1, .ref (mm_rg S a0 69)] (mm_uM S p3 (p2).toNatClampNeg (mm_M S p1 (p0).toNatClampNeg)) :=
  Eq.trans (mx_iald t196 d196_103 h1 h0) <|
  Eq.trans (mx_iast2 t196 d196_104 h2 h3) <|
  Eq.trans (mx_aload_n t196 d196_105 (x := a0) rfl) <|
  Eq.trans (mx_getR t196 d196_106 rfl fl12_141 h4 h5) <|
  Eq.trans (mx_iload_n t196 d196_109 (x := x1) rfl) <|
  Eq.trans (mx_aload_n t196 d196_110 (x := a0) rfl) <|
  Eq.trans (mx_getR t196 d196_111 rfl fl12_27 h4 h6) <|
  (mx_iload_n t196 d196_114 (x := x1) rfl)
theorem b196_115 {d : Nat} {S : mm_S} {a0 : Nat} {x1 : Int32} {p0 : Int32} {p1 : Nat} {p2 : Int32} {p3 : Nat} (h0 : mm_inb p0 (mm_N S p1) = true) (h1 : mm_arr S p1 13 = true) (h2 : mm_arr S p3 13 = true) (h3 : mm_inb p2 (mm_N S p3) = true) (h4 : mm_obj S a0 12 = true) (h5 : (mm_R S a0 71).isSome = true) (h6 : (mm_R S a0 9).isSome = true) : mm_ex d 196 115 [.ref a0, .int x1] [.int p0, .ref p1, .int p2, .ref p3] S =
    mm_ex d 196 127 [.ref a0, .int x1] [.int x1, .ref (mm_rg S a0 9), .int x1, .ref (mm_rg S a0 71)] (mm_uM S p3 (p2).toNatClampNeg (mm_M S p1 (p0).toNatClampNeg)) :=
  Eq.trans (mx_iald t196 d196_115 h1 h0) <|
  Eq.trans (mx_iast2 t196 d196_116 h2 h3) <|
  Eq.trans (mx_aload_n t196 d196_117 (x := a0) rfl) <|
  Eq.trans (mx_getR t196 d196_118 rfl fl12_147 h4 h5) <|
  Eq.trans (mx_iload_n t196 d196_121 (x := x1) rfl) <|
  Eq.trans (mx_aload_n t196 d196_122 (x := a0) rfl) <|
  Eq.trans (mx_getR t196 d196_123 rfl fl12_33 h4 h6) <|
  (mx_iload_n t196 d196_126 (x := x1) rfl)
theorem b196_127 {d : Nat} {S : mm_S} {a0 : Nat} {x1 : Int32} {p0 : Int32} {p1 : Nat} {p2 : Int32} {p3 : Nat} (h0 : mm_inb p0 (mm_N S p1) = true) (h1 : mm_arr S p1 13 = true) (h2 : mm_arr S p3 13 = true) (h3 : mm_inb p2 (mm_N S p3) = true) : mm_ex d 196 127 [.ref a0, .int x1] [.int p0, .ref p1, .int p2, .ref p3] S =
    mm_ex d 196 39 [.ref a0, .int (x1 + nI 1)] [] (mm_uM S p3 (p2).toNatClampNeg (mm_M S p1 (p0).toNatClampNeg)) :=
  Eq.trans (mx_iald t196 d196_127 h1 h0) <|
  Eq.trans (mx_iast2 t196 d196_128 h2 h3) <|
  Eq.trans (mx_iinc t196 d196_129 (x := x1) (v := nI 1) (ls' := [.ref a0, .int (x1 + nI 1)]) rfl rfl rfl rfl) <|
  (mx_goto t196 d196_132 (tgt := 39) (by decide))
theorem b196_135 {d : Nat} {S : mm_S} {a0 : Nat} {x1 : Int32} : mm_ex d 196 135 [.ref a0, .int x1] [] S =
    mm_ex d 196 137 [.ref a0, .int (nI 0)] [] S :=
  Eq.trans (mx_iconst t196 d196_135 (v := nI 0) rfl) <|
  (mx_istore_n t196 d196_136 (ls' := [.ref a0, .int (nI 0)]) rfl rfl)
theorem b196_137 {d : Nat} {S : mm_S} {a0 : Nat} {x1 : Int32} : mm_ex d 196 137 [.ref a0, .int x1] [] S =
    if (nI 18) ≤ x1 then mm_ex d 196 161 [.ref a0, .int x1] [] S else mm_ex d 196 143 [.ref a0, .int x1] [] S :=
  Eq.trans (mx_iload_n t196 d196_137 (x := x1) rfl) <|
  Eq.trans (mx_bipush t196 d196_138 (v := nI 18) rfl) <|
  (mx_cge t196 d196_140 (tgt := 161) (by decide))
theorem b196_143 {d : Nat} {S : mm_S} {a0 : Nat} {x1 : Int32} (h0 : mm_obj S a0 12 = true) (h1 : (mm_R S a0 70).isSome = true) (h2 : (mm_R S a0 7).isSome = true) (h3 : mm_inb x1 (mm_N S (mm_rg S a0 7)) = true) (h4 : mm_arr S (mm_rg S a0 7) 13 = true) (h5 : mm_arr S (mm_rg S a0 70) 13 = true) (h6 : mm_inb x1 (mm_N S (mm_rg S a0 70)) = true) : mm_ex d 196 143 [.ref a0, .int x1] [] S =
    mm_ex d 196 137 [.ref a0, .int (x1 + nI 1)] [] (mm_uM S (mm_rg S a0 70) (x1).toNatClampNeg (mm_M S (mm_rg S a0 7) (x1).toNatClampNeg)) :=
  Eq.trans (mx_aload_n t196 d196_143 (x := a0) rfl) <|
  Eq.trans (mx_getR t196 d196_144 rfl fl12_144 h0 h1) <|
  Eq.trans (mx_iload_n t196 d196_147 (x := x1) rfl) <|
  Eq.trans (mx_aload_n t196 d196_148 (x := a0) rfl) <|
  Eq.trans (mx_getR t196 d196_149 rfl fl12_30 h0 h2) <|
  Eq.trans (mx_iload_n t196 d196_152 (x := x1) rfl) <|
  Eq.trans (mx_iald t196 d196_153 h4 h3) <|
  Eq.trans (mx_iast2 t196 d196_154 h5 h6) <|
  Eq.trans (mx_iinc t196 d196_155 (x := x1) (v := nI 1) (ls' := [.ref a0, .int (x1 + nI 1)]) rfl rfl rfl rfl) <|
  (mx_goto t196 d196_158 (tgt := 137) (by decide))
theorem b196_161 {d : Nat} {S : mm_S} {a0 : Nat} {x1 : Int32} : mm_ex d 196 161 [.ref a0, .int x1] [] S =
    mm_ex d 196 163 [.ref a0, .int (nI 0)] [] S :=
  Eq.trans (mx_iconst t196 d196_161 (v := nI 0) rfl) <|
  (mx_istore_n t196 d196_162 (ls' := [.ref a0, .int (nI 0)]) rfl rfl)
theorem b196_163 {d : Nat} {S : mm_S} {a0 : Nat} {x1 : Int32} : mm_ex d 196 163 [.ref a0, .int x1] [] S =
    if (nI 12) ≤ x1 then mm_ex d 196 187 [.ref a0, .int x1] [] S else mm_ex d 196 169 [.ref a0, .int x1] [] S :=
  Eq.trans (mx_iload_n t196 d196_163 (x := x1) rfl) <|
  Eq.trans (mx_bipush t196 d196_164 (v := nI 12) rfl) <|
  (mx_cge t196 d196_166 (tgt := 187) (by decide))
theorem b196_169 {d : Nat} {S : mm_S} {a0 : Nat} {x1 : Int32} (h0 : mm_obj S a0 12 = true) (h1 : (mm_R S a0 73).isSome = true) (h2 : (mm_R S a0 16).isSome = true) (h3 : mm_inb x1 (mm_N S (mm_rg S a0 16)) = true) (h4 : mm_arr S (mm_rg S a0 16) 13 = true) (h5 : mm_arr S (mm_rg S a0 73) 13 = true) (h6 : mm_inb x1 (mm_N S (mm_rg S a0 73)) = true) : mm_ex d 196 169 [.ref a0, .int x1] [] S =
    mm_ex d 196 163 [.ref a0, .int (x1 + nI 1)] [] (mm_uM S (mm_rg S a0 73) (x1).toNatClampNeg (mm_M S (mm_rg S a0 16) (x1).toNatClampNeg)) :=
  Eq.trans (mx_aload_n t196 d196_169 (x := a0) rfl) <|
  Eq.trans (mx_getR t196 d196_170 rfl fl12_153 h0 h1) <|
  Eq.trans (mx_iload_n t196 d196_173 (x := x1) rfl) <|
  Eq.trans (mx_aload_n t196 d196_174 (x := a0) rfl) <|
  Eq.trans (mx_getR t196 d196_175 rfl fl12_43 h0 h2) <|
  Eq.trans (mx_iload_n t196 d196_178 (x := x1) rfl) <|
  Eq.trans (mx_iald t196 d196_179 h4 h3) <|
  Eq.trans (mx_iast2 t196 d196_180 h5 h6) <|
  Eq.trans (mx_iinc t196 d196_181 (x := x1) (v := nI 1) (ls' := [.ref a0, .int (x1 + nI 1)]) rfl rfl rfl rfl) <|
  (mx_goto t196 d196_184 (tgt := 163) (by decide))
theorem b196_187 {d : Nat} {S : mm_S} {a0 : Nat} {x1 : Int32} (h0 : mm_obj S a0 12 = true) (h1 : (mm_R S a0 72).isSome = true) (h2 : mm_arr S (mm_rg S a0 72) 13 = true) (h3 : mm_inb (nI 0) (mm_N S (mm_rg S a0 72)) = true) : mm_ex d 196 187 [.ref a0, .int x1] [] S =
    mm_ex d 196 203 [.ref a0, .int x1] [.ref a0, .int (nI 1), .ref (mm_rg S a0 72)] (mm_uM S (mm_rg S a0 72) (nI 0).toNatClampNeg (mm_M S a0 8)) :=
  Eq.trans (mx_aload_n t196 d196_187 (x := a0) rfl) <|
  Eq.trans (mx_getR t196 d196_188 rfl fl12_150 h0 h1) <|
  Eq.trans (mx_iconst t196 d196_191 (v := nI 0) rfl) <|
  Eq.trans (mx_aload_n t196 d196_192 (x := a0) rfl) <|
  Eq.trans (mx_geti t196 d196_193 rfl fl12_166 h0) <|
  Eq.trans (mx_iast2 t196 d196_196 h2 h3) <|
  Eq.trans (mx_aload_n t196 d196_197 (x := a0) rfl) <|
  Eq.trans (mx_getR t196 d196_198 rfl fl12_150 h0 h1) <|
  Eq.trans (mx_iconst t196 d196_201 (v := nI 1) rfl) <|
  (mx_aload_n t196 d196_202 (x := a0) rfl)
theorem b196_203 {d : Nat} {S : mm_S} {a0 : Nat} {x1 : Int32} {p0 : Nat} {p1 : Int32} {p2 : Nat} (h0 : mm_obj S p0 12 = true) (h1 : mm_arr S p2 13 = true) (h2 : mm_inb p1 (mm_N S p2) = true) (h3 : mm_obj S a0 12 = true) (h4 : (mm_R S a0 72).isSome = true) : mm_ex d 196 203 [.ref a0, .int x1] [.ref p0, .int p1, .ref p2] S =
    mm_ex d 196 213 [.ref a0, .int x1] [.ref a0, .int (nI 2), .ref (mm_rg S a0 72)] (mm_uM S p2 (p1).toNatClampNeg (mm_M S p0 10)) :=
  Eq.trans (mx_geti t196 d196_203 rfl fl12_36 h0) <|
  Eq.trans (mx_iast2 t196 d196_206 h1 h2) <|
  Eq.trans (mx_aload_n t196 d196_207 (x := a0) rfl) <|
  Eq.trans (mx_getR t196 d196_208 rfl fl12_150 h3 h4) <|
  Eq.trans (mx_iconst t196 d196_211 (v := nI 2) rfl) <|
  (mx_aload_n t196 d196_212 (x := a0) rfl)
theorem b196_213 {d : Nat} {S : mm_S} {a0 : Nat} {x1 : Int32} {p0 : Nat} {p1 : Int32} {p2 : Nat} (h0 : mm_obj S p0 12 = true) (h1 : mm_arr S p2 13 = true) (h2 : mm_inb p1 (mm_N S p2) = true) (h3 : mm_obj S a0 12 = true) (h4 : (mm_R S a0 72).isSome = true) : mm_ex d 196 213 [.ref a0, .int x1] [.ref p0, .int p1, .ref p2] S =
    mm_ex d 196 223 [.ref a0, .int x1] [.ref a0, .int (nI 3), .ref (mm_rg S a0 72)] (mm_uM S p2 (p1).toNatClampNeg (mm_M S p0 11)) :=
  Eq.trans (mx_geti t196 d196_213 rfl fl12_40 h0) <|
  Eq.trans (mx_iast2 t196 d196_216 h1 h2) <|
  Eq.trans (mx_aload_n t196 d196_217 (x := a0) rfl) <|
  Eq.trans (mx_getR t196 d196_218 rfl fl12_150 h3 h4) <|
  Eq.trans (mx_iconst t196 d196_221 (v := nI 3) rfl) <|
  (mx_aload_n t196 d196_222 (x := a0) rfl)
theorem b196_223 {d : Nat} {S : mm_S} {a0 : Nat} {x1 : Int32} {p0 : Nat} {p1 : Int32} {p2 : Nat} (h0 : mm_obj S p0 12 = true) (h1 : mm_arr S p2 13 = true) (h2 : mm_inb p1 (mm_N S p2) = true) (h3 : mm_obj S a0 12 = true) (h4 : (mm_R S a0 72).isSome = true) : mm_ex d 196 223 [.ref a0, .int x1] [.ref p0, .int p1, .ref p2] S =
    mm_ex d 196 233 [.ref a0, .int x1] [.ref a0, .int (nI 4), .ref (mm_rg S a0 72)] (mm_uM S p2 (p1).toNatClampNeg (mm_M S p0 12)) :=
  Eq.trans (mx_geti t196 d196_223 rfl fl12_257 h0) <|
  Eq.trans (mx_iast2 t196 d196_226 h1 h2) <|
  Eq.trans (mx_aload_n t196 d196_227 (x := a0) rfl) <|
  Eq.trans (mx_getR t196 d196_228 rfl fl12_150 h3 h4) <|
  Eq.trans (mx_iconst t196 d196_231 (v := nI 4) rfl) <|
  (mx_aload_n t196 d196_232 (x := a0) rfl)
theorem b196_233 {d : Nat} {S : mm_S} {a0 : Nat} {x1 : Int32} {p0 : Nat} {p1 : Int32} {p2 : Nat} (h0 : mm_obj S p0 12 = true) (h1 : mm_arr S p2 13 = true) (h2 : mm_inb p1 (mm_N S p2) = true) : mm_ex d 196 233 [.ref a0, .int x1] [.ref p0, .int p1, .ref p2] S =
    mm_ex d 196 238 [.ref a0, .int x1] [.ref a0] (mm_uM S p2 (p1).toNatClampNeg (mm_M S p0 13)) :=
  Eq.trans (mx_geti t196 d196_233 rfl fl12_260 h0) <|
  Eq.trans (mx_iast2 t196 d196_236 h1 h2) <|
  (mx_aload_n t196 d196_237 (x := a0) rfl)
theorem b196_238 {d : Nat} {S : mm_S} {a0 : Nat} {x1 : Int32} {p0 : Nat} (h0 : mm_obj S p0 12 = true) : mm_ex d 196 238 [.ref a0, .int x1] [.ref p0] S =
    some (some (.int (mm_M S p0 0)), S) :=
  Eq.trans (mx_geti t196 d196_238 rfl fl12_159 h0) <|
  (mx_iret t196 d196_241 (ty := .int) rfl rfl (fun h => nomatch h))
theorem e196 {d : Nat} {S : mm_S} {a0 : Nat} : mm_cl d 196 [.ref a0] S = mm_ex d 196 0 [.ref a0, .null] [] S := mm_cl_eq t196 (Nat.le_of_ble_eq_true rfl) rfl
/-! X12_undo -/
theorem dd197_0 : (decode prog_14_method_72_code 0 = .ok (.aload_n 0, 1)) ∧ (decode prog_14_method_72_code 1 = .ok (.getfield 371, 3)) ∧ (decode prog_14_method_72_code 4 = .ok (.ifCond .ne 6, 3)) ∧ (decode prog_14_method_72_code 7 = .ok (.bipush (-3), 2)) ∧ (decode prog_14_method_72_code 9 = .ok (.ireturn, 1)) ∧ (decode prog_14_method_72_code 10 = .ok (.aload_n 0, 1)) ∧ (decode prog_14_method_72_code 11 = .ok (.aload_n 0, 1)) ∧ (decode prog_14_method_72_code 12 = .ok (.getfield 374, 3)) ∧ (decode prog_14_method_72_code 15 = .ok (.putfield 159, 3)) ∧ (decode prog_14_method_72_code 18 = .ok (.aload_n 0, 1)) ∧ (decode prog_14_method_72_code 19 = .ok (.aload_n 0, 1)) ∧ (decode prog_14_method_72_code 20 = .ok (.getfield 377, 3)) ∧ (decode prog_14_method_72_code 23 = .ok (.putfield 340, 3)) ∧ (decode prog_14_method_72_code 26 = .ok (.aload_n 0, 1)) ∧ (decode prog_14_method_72_code 27 = .ok (.aload_n 0, 1)) ∧ (decode prog_14_method_72_code 28 = .ok (.getfield 380, 3)) := by decide +kernel
theorem d197_0 : decode prog_14_method_72_code 0 = .ok (.aload_n 0, 1) := dd197_0.1
theorem d197_1 : decode prog_14_method_72_code 1 = .ok (.getfield 371, 3) := dd197_0.2.1
theorem d197_4 : decode prog_14_method_72_code 4 = .ok (.ifCond .ne 6, 3) := dd197_0.2.2.1
theorem d197_7 : decode prog_14_method_72_code 7 = .ok (.bipush (-3), 2) := dd197_0.2.2.2.1
theorem d197_9 : decode prog_14_method_72_code 9 = .ok (.ireturn, 1) := dd197_0.2.2.2.2.1
theorem d197_10 : decode prog_14_method_72_code 10 = .ok (.aload_n 0, 1) := dd197_0.2.2.2.2.2.1
theorem d197_11 : decode prog_14_method_72_code 11 = .ok (.aload_n 0, 1) := dd197_0.2.2.2.2.2.2.1
theorem d197_12 : decode prog_14_method_72_code 12 = .ok (.getfield 374, 3) := dd197_0.2.2.2.2.2.2.2.1
theorem d197_15 : decode prog_14_method_72_code 15 = .ok (.putfield 159, 3) := dd197_0.2.2.2.2.2.2.2.2.1
theorem d197_18 : decode prog_14_method_72_code 18 = .ok (.aload_n 0, 1) := dd197_0.2.2.2.2.2.2.2.2.2.1
theorem d197_19 : decode prog_14_method_72_code 19 = .ok (.aload_n 0, 1) := dd197_0.2.2.2.2.2.2.2.2.2.2.1
theorem d197_20 : decode prog_14_method_72_code 20 = .ok (.getfield 377, 3) := dd197_0.2.2.2.2.2.2.2.2.2.2.2.1
theorem d197_23 : decode prog_14_method_72_code 23 = .ok (.putfield 340, 3) := dd197_0.2.2.2.2.2.2.2.2.2.2.2.2.1
theorem d197_26 : decode prog_14_method_72_code 26 = .ok (.aload_n 0, 1) := dd197_0.2.2.2.2.2.2.2.2.2.2.2.2.2.1
theorem d197_27 : decode prog_14_method_72_code 27 = .ok (.aload_n 0, 1) := dd197_0.2.2.2.2.2.2.2.2.2.2.2.2.2.2.1
theorem d197_28 : decode prog_14_method_72_code 28 = .ok (.getfield 380, 3) := dd197_0.2.2.2.2.2.2.2.2.2.2.2.2.2.2.2
theorem dd197_31 : (decode prog_14_method_72_code 31 = .ok (.putfield 365, 3)) ∧ (decode prog_14_method_72_code 34 = .ok (.aload_n 0, 1)) ∧ (decode prog_14_method_72_code 35 = .ok (.aload_n 0, 1)) ∧ (decode prog_14_method_72_code 36 = .ok (.getfield 383, 3)) ∧ (decode prog_14_method_72_code 39 = .ok (.putfield 46, 3)) ∧ (decode prog_14_method_72_code 42 = .ok (.iconst 0, 1)) ∧ (decode prog_14_method_72_code 43 = .ok (.istore_n 1, 1)) ∧ (decode prog_14_method_72_code 44 = .ok (.iload_n 1, 1)) ∧ (decode prog_14_method_72_code 45 = .ok (.bipush 6, 2)) ∧ (decode prog_14_method_72_code 47 = .ok (.if_icmp .ge 93, 3)) ∧ (decode prog_14_method_72_code 50 = .ok (.aload_n 0, 1)) ∧ (decode prog_14_method_72_code 51 = .ok (.getfield 9, 3)) ∧ (decode prog_14_method_72_code 54 = .ok (.iload_n 1, 1)) ∧ (decode prog_14_method_72_code 55 = .ok (.aload_n 0, 1)) ∧ (decode prog_14_method_72_code 56 = .ok (.getfield 126, 3)) ∧ (decode prog_14_method_72_code 59 = .ok (.iload_n 1, 1)) := by decide +kernel
theorem d197_31 : decode prog_14_method_72_code 31 = .ok (.putfield 365, 3) := dd197_31.1
theorem d197_34 : decode prog_14_method_72_code 34 = .ok (.aload_n 0, 1) := dd197_31.2.1
theorem d197_35 : decode prog_14_method_72_code 35 = .ok (.aload_n 0, 1) := dd197_31.2.2.1
theorem d197_36 : decode prog_14_method_72_code 36 = .ok (.getfield 383, 3) := dd197_31.2.2.2.1
theorem d197_39 : decode prog_14_method_72_code 39 = .ok (.putfield 46, 3) := dd197_31.2.2.2.2.1
theorem d197_42 : decode prog_14_method_72_code 42 = .ok (.iconst 0, 1) := dd197_31.2.2.2.2.2.1
theorem d197_43 : decode prog_14_method_72_code 43 = .ok (.istore_n 1, 1) := dd197_31.2.2.2.2.2.2.1
theorem d197_44 : decode prog_14_method_72_code 44 = .ok (.iload_n 1, 1) := dd197_31.2.2.2.2.2.2.2.1
theorem d197_45 : decode prog_14_method_72_code 45 = .ok (.bipush 6, 2) := dd197_31.2.2.2.2.2.2.2.2.1
theorem d197_47 : decode prog_14_method_72_code 47 = .ok (.if_icmp .ge 93, 3) := dd197_31.2.2.2.2.2.2.2.2.2.1
theorem d197_50 : decode prog_14_method_72_code 50 = .ok (.aload_n 0, 1) := dd197_31.2.2.2.2.2.2.2.2.2.2.1
theorem d197_51 : decode prog_14_method_72_code 51 = .ok (.getfield 9, 3) := dd197_31.2.2.2.2.2.2.2.2.2.2.2.1
theorem d197_54 : decode prog_14_method_72_code 54 = .ok (.iload_n 1, 1) := dd197_31.2.2.2.2.2.2.2.2.2.2.2.2.1
theorem d197_55 : decode prog_14_method_72_code 55 = .ok (.aload_n 0, 1) := dd197_31.2.2.2.2.2.2.2.2.2.2.2.2.2.1
theorem d197_56 : decode prog_14_method_72_code 56 = .ok (.getfield 126, 3) := dd197_31.2.2.2.2.2.2.2.2.2.2.2.2.2.2.1
theorem d197_59 : decode prog_14_method_72_code 59 = .ok (.iload_n 1, 1) := dd197_31.2.2.2.2.2.2.2.2.2.2.2.2.2.2.2
theorem dd197_60 : (decode prog_14_method_72_code 60 = .ok (.iaload, 1)) ∧ (decode prog_14_method_72_code 61 = .ok (.iastore, 1)) ∧ (decode prog_14_method_72_code 62 = .ok (.aload_n 0, 1)) ∧ (decode prog_14_method_72_code 63 = .ok (.getfield 15, 3)) ∧ (decode prog_14_method_72_code 66 = .ok (.iload_n 1, 1)) ∧ (decode prog_14_method_72_code 67 = .ok (.aload_n 0, 1)) ∧ (decode prog_14_method_72_code 68 = .ok (.getfield 129, 3)) ∧ (decode prog_14_method_72_code 71 = .ok (.iload_n 1, 1)) ∧ (decode prog_14_method_72_code 72 = .ok (.iaload, 1)) ∧ (decode prog_14_method_72_code 73 = .ok (.iastore, 1)) ∧ (decode prog_14_method_72_code 74 = .ok (.aload_n 0, 1)) ∧ (decode prog_14_method_72_code 75 = .ok (.getfield 18, 3)) ∧ (decode prog_14_method_72_code 78 = .ok (.iload_n 1, 1)) ∧ (decode prog_14_method_72_code 79 = .ok (.aload_n 0, 1)) ∧ (decode prog_14_method_72_code 80 = .ok (.getfield 132, 3)) ∧ (decode prog_14_method_72_code 83 = .ok (.iload_n 1, 1)) := by decide +kernel
theorem d197_60 : decode prog_14_method_72_code 60 = .ok (.iaload, 1) := dd197_60.1
theorem d197_61 : decode prog_14_method_72_code 61 = .ok (.iastore, 1) := dd197_60.2.1
theorem d197_62 : decode prog_14_method_72_code 62 = .ok (.aload_n 0, 1) := dd197_60.2.2.1
theorem d197_63 : decode prog_14_method_72_code 63 = .ok (.getfield 15, 3) := dd197_60.2.2.2.1
theorem d197_66 : decode prog_14_method_72_code 66 = .ok (.iload_n 1, 1) := dd197_60.2.2.2.2.1
theorem d197_67 : decode prog_14_method_72_code 67 = .ok (.aload_n 0, 1) := dd197_60.2.2.2.2.2.1
theorem d197_68 : decode prog_14_method_72_code 68 = .ok (.getfield 129, 3) := dd197_60.2.2.2.2.2.2.1
theorem d197_71 : decode prog_14_method_72_code 71 = .ok (.iload_n 1, 1) := dd197_60.2.2.2.2.2.2.2.1
theorem d197_72 : decode prog_14_method_72_code 72 = .ok (.iaload, 1) := dd197_60.2.2.2.2.2.2.2.2.1
theorem d197_73 : decode prog_14_method_72_code 73 = .ok (.iastore, 1) := dd197_60.2.2.2.2.2.2.2.2.2.1
theorem d197_74 : decode prog_14_method_72_code 74 = .ok (.aload_n 0, 1) := dd197_60.2.2.2.2.2.2.2.2.2.2.1
theorem d197_75 : decode prog_14_method_72_code 75 = .ok (.getfield 18, 3) := dd197_60.2.2.2.2.2.2.2.2.2.2.2.1
theorem d197_78 : decode prog_14_method_72_code 78 = .ok (.iload_n 1, 1) := dd197_60.2.2.2.2.2.2.2.2.2.2.2.2.1
theorem d197_79 : decode prog_14_method_72_code 79 = .ok (.aload_n 0, 1) := dd197_60.2.2.2.2.2.2.2.2.2.2.2.2.2.1
theorem d197_80 : decode prog_14_method_72_code 80 = .ok (.getfield 132, 3) := dd197_60.2.2.2.2.2.2.2.2.2.2.2.2.2.2.1
theorem d197_83 : decode prog_14_method_72_code 83 = .ok (.iload_n 1, 1) := dd197_60.2.2.2.2.2.2.2.2.2.2.2.2.2.2.2
theorem dd197_84 : (decode prog_14_method_72_code 84 = .ok (.iaload, 1)) ∧ (decode prog_14_method_72_code 85 = .ok (.iastore, 1)) ∧ (decode prog_14_method_72_code 86 = .ok (.aload_n 0, 1)) ∧ (decode prog_14_method_72_code 87 = .ok (.getfield 21, 3)) ∧ (decode prog_14_method_72_code 90 = .ok (.iload_n 1, 1)) ∧ (decode prog_14_method_72_code 91 = .ok (.aload_n 0, 1)) ∧ (decode prog_14_method_72_code 92 = .ok (.getfield 135, 3)) ∧ (decode prog_14_method_72_code 95 = .ok (.iload_n 1, 1)) ∧ (decode prog_14_method_72_code 96 = .ok (.iaload, 1)) ∧ (decode prog_14_method_72_code 97 = .ok (.iastore, 1)) ∧ (decode prog_14_method_72_code 98 = .ok (.aload_n 0, 1)) ∧ (decode prog_14_method_72_code 99 = .ok (.getfield 24, 3)) ∧ (decode prog_14_method_72_code 102 = .ok (.iload_n 1, 1)) ∧ (decode prog_14_method_72_code 103 = .ok (.aload_n 0, 1)) ∧ (decode prog_14_method_72_code 104 = .ok (.getfield 138, 3)) ∧ (decode prog_14_method_72_code 107 = .ok (.iload_n 1, 1)) := by decide +kernel
theorem d197_84 : decode prog_14_method_72_code 84 = .ok (.iaload, 1) := dd197_84.1
theorem d197_85 : decode prog_14_method_72_code 85 = .ok (.iastore, 1) := dd197_84.2.1
theorem d197_86 : decode prog_14_method_72_code 86 = .ok (.aload_n 0, 1) := dd197_84.2.2.1
theorem d197_87 : decode prog_14_method_72_code 87 = .ok (.getfield 21, 3) := dd197_84.2.2.2.1
theorem d197_90 : decode prog_14_method_72_code 90 = .ok (.iload_n 1, 1) := dd197_84.2.2.2.2.1
theorem d197_91 : decode prog_14_method_72_code 91 = .ok (.aload_n 0, 1) := dd197_84.2.2.2.2.2.1
theorem d197_92 : decode prog_14_method_72_code 92 = .ok (.getfield 135, 3) := dd197_84.2.2.2.2.2.2.1
theorem d197_95 : decode prog_14_method_72_code 95 = .ok (.iload_n 1, 1) := dd197_84.2.2.2.2.2.2.2.1
theorem d197_96 : decode prog_14_method_72_code 96 = .ok (.iaload, 1) := dd197_84.2.2.2.2.2.2.2.2.1
theorem d197_97 : decode prog_14_method_72_code 97 = .ok (.iastore, 1) := dd197_84.2.2.2.2.2.2.2.2.2.1
theorem d197_98 : decode prog_14_method_72_code 98 = .ok (.aload_n 0, 1) := dd197_84.2.2.2.2.2.2.2.2.2.2.1
theorem d197_99 : decode prog_14_method_72_code 99 = .ok (.getfield 24, 3) := dd197_84.2.2.2.2.2.2.2.2.2.2.2.1
theorem d197_102 : decode prog_14_method_72_code 102 = .ok (.iload_n 1, 1) := dd197_84.2.2.2.2.2.2.2.2.2.2.2.2.1
theorem d197_103 : decode prog_14_method_72_code 103 = .ok (.aload_n 0, 1) := dd197_84.2.2.2.2.2.2.2.2.2.2.2.2.2.1
theorem d197_104 : decode prog_14_method_72_code 104 = .ok (.getfield 138, 3) := dd197_84.2.2.2.2.2.2.2.2.2.2.2.2.2.2.1
theorem d197_107 : decode prog_14_method_72_code 107 = .ok (.iload_n 1, 1) := dd197_84.2.2.2.2.2.2.2.2.2.2.2.2.2.2.2
theorem dd197_108 : (decode prog_14_method_72_code 108 = .ok (.iaload, 1)) ∧ (decode prog_14_method_72_code 109 = .ok (.iastore, 1)) ∧ (decode prog_14_method_72_code 110 = .ok (.aload_n 0, 1)) ∧ (decode prog_14_method_72_code 111 = .ok (.getfield 27, 3)) ∧ (decode prog_14_method_72_code 114 = .ok (.iload_n 1, 1)) ∧ (decode prog_14_method_72_code 115 = .ok (.aload_n 0, 1)) ∧ (decode prog_14_method_72_code 116 = .ok (.getfield 141, 3)) ∧ (decode prog_14_method_72_code 119 = .ok (.iload_n 1, 1)) ∧ (decode prog_14_method_72_code 120 = .ok (.iaload, 1)) ∧ (decode prog_14_method_72_code 121 = .ok (.iastore, 1)) ∧ (decode prog_14_method_72_code 122 = .ok (.aload_n 0, 1)) ∧ (decode prog_14_method_72_code 123 = .ok (.getfield 33, 3)) ∧ (decode prog_14_method_72_code 126 = .ok (.iload_n 1, 1)) ∧ (decode prog_14_method_72_code 127 = .ok (.aload_n 0, 1)) ∧ (decode prog_14_method_72_code 128 = .ok (.getfield 147, 3)) ∧ (decode prog_14_method_72_code 131 = .ok (.iload_n 1, 1)) := by decide +kernel
theorem d197_108 : decode prog_14_method_72_code 108 = .ok (.iaload, 1) := dd197_108.1
theorem d197_109 : decode prog_14_method_72_code 109 = .ok (.iastore, 1) := dd197_108.2.1
theorem d197_110 : decode prog_14_method_72_code 110 = .ok (.aload_n 0, 1) := dd197_108.2.2.1
theorem d197_111 : decode prog_14_method_72_code 111 = .ok (.getfield 27, 3) := dd197_108.2.2.2.1
theorem d197_114 : decode prog_14_method_72_code 114 = .ok (.iload_n 1, 1) := dd197_108.2.2.2.2.1
theorem d197_115 : decode prog_14_method_72_code 115 = .ok (.aload_n 0, 1) := dd197_108.2.2.2.2.2.1
theorem d197_116 : decode prog_14_method_72_code 116 = .ok (.getfield 141, 3) := dd197_108.2.2.2.2.2.2.1
theorem d197_119 : decode prog_14_method_72_code 119 = .ok (.iload_n 1, 1) := dd197_108.2.2.2.2.2.2.2.1
theorem d197_120 : decode prog_14_method_72_code 120 = .ok (.iaload, 1) := dd197_108.2.2.2.2.2.2.2.2.1
theorem d197_121 : decode prog_14_method_72_code 121 = .ok (.iastore, 1) := dd197_108.2.2.2.2.2.2.2.2.2.1
theorem d197_122 : decode prog_14_method_72_code 122 = .ok (.aload_n 0, 1) := dd197_108.2.2.2.2.2.2.2.2.2.2.1
theorem d197_123 : decode prog_14_method_72_code 123 = .ok (.getfield 33, 3) := dd197_108.2.2.2.2.2.2.2.2.2.2.2.1
theorem d197_126 : decode prog_14_method_72_code 126 = .ok (.iload_n 1, 1) := dd197_108.2.2.2.2.2.2.2.2.2.2.2.2.1
theorem d197_127 : decode prog_14_method_72_code 127 = .ok (.aload_n 0, 1) := dd197_108.2.2.2.2.2.2.2.2.2.2.2.2.2.1
theorem d197_128 : decode prog_14_method_72_code 128 = .ok (.getfield 147, 3) := dd197_108.2.2.2.2.2.2.2.2.2.2.2.2.2.2.1
theorem d197_131 : decode prog_14_method_72_code 131 = .ok (.iload_n 1, 1) := dd197_108.2.2.2.2.2.2.2.2.2.2.2.2.2.2.2
theorem dd197_132 : (decode prog_14_method_72_code 132 = .ok (.iaload, 1)) ∧ (decode prog_14_method_72_code 133 = .ok (.iastore, 1)) ∧ (decode prog_14_method_72_code 134 = .ok (.iinc 1 1, 3)) ∧ (decode prog_14_method_72_code 137 = .ok (.goto (-93), 3)) ∧ (decode prog_14_method_72_code 140 = .ok (.iconst 0, 1)) ∧ (decode prog_14_method_72_code 141 = .ok (.istore_n 1, 1)) ∧ (decode prog_14_method_72_code 142 = .ok (.iload_n 1, 1)) ∧ (decode prog_14_method_72_code 143 = .ok (.bipush 18, 2)) ∧ (decode prog_14_method_72_code 145 = .ok (.if_icmp .ge 21, 3)) ∧ (decode prog_14_method_72_code 148 = .ok (.aload_n 0, 1)) ∧ (decode prog_14_method_72_code 149 = .ok (.getfield 30, 3)) ∧ (decode prog_14_method_72_code 152 = .ok (.iload_n 1, 1)) ∧ (decode prog_14_method_72_code 153 = .ok (.aload_n 0, 1)) ∧ (decode prog_14_method_72_code 154 = .ok (.getfield 144, 3)) ∧ (decode prog_14_method_72_code 157 = .ok (.iload_n 1, 1)) ∧ (decode prog_14_method_72_code 158 = .ok (.iaload, 1)) := by decide +kernel
theorem d197_132 : decode prog_14_method_72_code 132 = .ok (.iaload, 1) := dd197_132.1
theorem d197_133 : decode prog_14_method_72_code 133 = .ok (.iastore, 1) := dd197_132.2.1
theorem d197_134 : decode prog_14_method_72_code 134 = .ok (.iinc 1 1, 3) := dd197_132.2.2.1
theorem d197_137 : decode prog_14_method_72_code 137 = .ok (.goto (-93), 3) := dd197_132.2.2.2.1
theorem d197_140 : decode prog_14_method_72_code 140 = .ok (.iconst 0, 1) := dd197_132.2.2.2.2.1
theorem d197_141 : decode prog_14_method_72_code 141 = .ok (.istore_n 1, 1) := dd197_132.2.2.2.2.2.1
theorem d197_142 : decode prog_14_method_72_code 142 = .ok (.iload_n 1, 1) := dd197_132.2.2.2.2.2.2.1
theorem d197_143 : decode prog_14_method_72_code 143 = .ok (.bipush 18, 2) := dd197_132.2.2.2.2.2.2.2.1
theorem d197_145 : decode prog_14_method_72_code 145 = .ok (.if_icmp .ge 21, 3) := dd197_132.2.2.2.2.2.2.2.2.1
theorem d197_148 : decode prog_14_method_72_code 148 = .ok (.aload_n 0, 1) := dd197_132.2.2.2.2.2.2.2.2.2.1
theorem d197_149 : decode prog_14_method_72_code 149 = .ok (.getfield 30, 3) := dd197_132.2.2.2.2.2.2.2.2.2.2.1
theorem d197_152 : decode prog_14_method_72_code 152 = .ok (.iload_n 1, 1) := dd197_132.2.2.2.2.2.2.2.2.2.2.2.1
theorem d197_153 : decode prog_14_method_72_code 153 = .ok (.aload_n 0, 1) := dd197_132.2.2.2.2.2.2.2.2.2.2.2.2.1
theorem d197_154 : decode prog_14_method_72_code 154 = .ok (.getfield 144, 3) := dd197_132.2.2.2.2.2.2.2.2.2.2.2.2.2.1
theorem d197_157 : decode prog_14_method_72_code 157 = .ok (.iload_n 1, 1) := dd197_132.2.2.2.2.2.2.2.2.2.2.2.2.2.2.1
theorem d197_158 : decode prog_14_method_72_code 158 = .ok (.iaload, 1) := dd197_132.2.2.2.2.2.2.2.2.2.2.2.2.2.2.2
theorem dd197_159 : (decode prog_14_method_72_code 159 = .ok (.iastore, 1)) ∧ (decode prog_14_method_72_code 160 = .ok (.iinc 1 1, 3)) ∧ (decode prog_14_method_72_code 163 = .ok (.goto (-21), 3)) ∧ (decode prog_14_method_72_code 166 = .ok (.iconst 0, 1)) ∧ (decode prog_14_method_72_code 167 = .ok (.istore_n 1, 1)) ∧ (decode prog_14_method_72_code 168 = .ok (.iload_n 1, 1)) ∧ (decode prog_14_method_72_code 169 = .ok (.bipush 12, 2)) ∧ (decode prog_14_method_72_code 171 = .ok (.if_icmp .ge 21, 3)) ∧ (decode prog_14_method_72_code 174 = .ok (.aload_n 0, 1)) ∧ (decode prog_14_method_72_code 175 = .ok (.getfield 43, 3)) ∧ (decode prog_14_method_72_code 178 = .ok (.iload_n 1, 1)) ∧ (decode prog_14_method_72_code 179 = .ok (.aload_n 0, 1)) ∧ (decode prog_14_method_72_code 180 = .ok (.getfield 153, 3)) ∧ (decode prog_14_method_72_code 183 = .ok (.iload_n 1, 1)) ∧ (decode prog_14_method_72_code 184 = .ok (.iaload, 1)) ∧ (decode prog_14_method_72_code 185 = .ok (.iastore, 1)) := by decide +kernel
theorem d197_159 : decode prog_14_method_72_code 159 = .ok (.iastore, 1) := dd197_159.1
theorem d197_160 : decode prog_14_method_72_code 160 = .ok (.iinc 1 1, 3) := dd197_159.2.1
theorem d197_163 : decode prog_14_method_72_code 163 = .ok (.goto (-21), 3) := dd197_159.2.2.1
theorem d197_166 : decode prog_14_method_72_code 166 = .ok (.iconst 0, 1) := dd197_159.2.2.2.1
theorem d197_167 : decode prog_14_method_72_code 167 = .ok (.istore_n 1, 1) := dd197_159.2.2.2.2.1
theorem d197_168 : decode prog_14_method_72_code 168 = .ok (.iload_n 1, 1) := dd197_159.2.2.2.2.2.1
theorem d197_169 : decode prog_14_method_72_code 169 = .ok (.bipush 12, 2) := dd197_159.2.2.2.2.2.2.1
theorem d197_171 : decode prog_14_method_72_code 171 = .ok (.if_icmp .ge 21, 3) := dd197_159.2.2.2.2.2.2.2.1
theorem d197_174 : decode prog_14_method_72_code 174 = .ok (.aload_n 0, 1) := dd197_159.2.2.2.2.2.2.2.2.1
theorem d197_175 : decode prog_14_method_72_code 175 = .ok (.getfield 43, 3) := dd197_159.2.2.2.2.2.2.2.2.2.1
theorem d197_178 : decode prog_14_method_72_code 178 = .ok (.iload_n 1, 1) := dd197_159.2.2.2.2.2.2.2.2.2.2.1
theorem d197_179 : decode prog_14_method_72_code 179 = .ok (.aload_n 0, 1) := dd197_159.2.2.2.2.2.2.2.2.2.2.2.1
theorem d197_180 : decode prog_14_method_72_code 180 = .ok (.getfield 153, 3) := dd197_159.2.2.2.2.2.2.2.2.2.2.2.2.1
theorem d197_183 : decode prog_14_method_72_code 183 = .ok (.iload_n 1, 1) := dd197_159.2.2.2.2.2.2.2.2.2.2.2.2.2.1
theorem d197_184 : decode prog_14_method_72_code 184 = .ok (.iaload, 1) := dd197_159.2.2.2.2.2.2.2.2.2.2.2.2.2.2.1
theorem d197_185 : decode prog_14_method_72_code 185 = .ok (.iastore, 1) := dd197_159.2.2.2.2.2.2.2.2.2.2.2.2.2.2.2
theorem dd197_186 : (decode prog_14_method_72_code 186 = .ok (.iinc 1 1, 3)) ∧ (decode prog_14_method_72_code 189 = .ok (.goto (-21), 3)) ∧ (decode prog_14_method_72_code 192 = .ok (.aload_n 0, 1)) ∧ (decode prog_14_method_72_code 193 = .ok (.aload_n 0, 1)) ∧ (decode prog_14_method_72_code 194 = .ok (.getfield 150, 3)) ∧ (decode prog_14_method_72_code 197 = .ok (.iconst 0, 1)) ∧ (decode prog_14_method_72_code 198 = .ok (.iaload, 1)) ∧ (decode prog_14_method_72_code 199 = .ok (.putfield 166, 3)) ∧ (decode prog_14_method_72_code 202 = .ok (.aload_n 0, 1)) ∧ (decode prog_14_method_72_code 203 = .ok (.aload_n 0, 1)) ∧ (decode prog_14_method_72_code 204 = .ok (.getfield 150, 3)) ∧ (decode prog_14_method_72_code 207 = .ok (.iconst 1, 1)) ∧ (decode prog_14_method_72_code 208 = .ok (.iaload, 1)) ∧ (decode prog_14_method_72_code 209 = .ok (.putfield 36, 3)) ∧ (decode prog_14_method_72_code 212 = .ok (.aload_n 0, 1)) ∧ (decode prog_14_method_72_code 213 = .ok (.aload_n 0, 1)) := by decide +kernel
theorem d197_186 : decode prog_14_method_72_code 186 = .ok (.iinc 1 1, 3) := dd197_186.1
theorem d197_189 : decode prog_14_method_72_code 189 = .ok (.goto (-21), 3) := dd197_186.2.1
theorem d197_192 : decode prog_14_method_72_code 192 = .ok (.aload_n 0, 1) := dd197_186.2.2.1
theorem d197_193 : decode prog_14_method_72_code 193 = .ok (.aload_n 0, 1) := dd197_186.2.2.2.1
theorem d197_194 : decode prog_14_method_72_code 194 = .ok (.getfield 150, 3) := dd197_186.2.2.2.2.1
theorem d197_197 : decode prog_14_method_72_code 197 = .ok (.iconst 0, 1) := dd197_186.2.2.2.2.2.1
theorem d197_198 : decode prog_14_method_72_code 198 = .ok (.iaload, 1) := dd197_186.2.2.2.2.2.2.1
theorem d197_199 : decode prog_14_method_72_code 199 = .ok (.putfield 166, 3) := dd197_186.2.2.2.2.2.2.2.1
theorem d197_202 : decode prog_14_method_72_code 202 = .ok (.aload_n 0, 1) := dd197_186.2.2.2.2.2.2.2.2.1
theorem d197_203 : decode prog_14_method_72_code 203 = .ok (.aload_n 0, 1) := dd197_186.2.2.2.2.2.2.2.2.2.1
theorem d197_204 : decode prog_14_method_72_code 204 = .ok (.getfield 150, 3) := dd197_186.2.2.2.2.2.2.2.2.2.2.1
theorem d197_207 : decode prog_14_method_72_code 207 = .ok (.iconst 1, 1) := dd197_186.2.2.2.2.2.2.2.2.2.2.2.1
theorem d197_208 : decode prog_14_method_72_code 208 = .ok (.iaload, 1) := dd197_186.2.2.2.2.2.2.2.2.2.2.2.2.1
theorem d197_209 : decode prog_14_method_72_code 209 = .ok (.putfield 36, 3) := dd197_186.2.2.2.2.2.2.2.2.2.2.2.2.2.1
theorem d197_212 : decode prog_14_method_72_code 212 = .ok (.aload_n 0, 1) := dd197_186.2.2.2.2.2.2.2.2.2.2.2.2.2.2.1
theorem d197_213 : decode prog_14_method_72_code 213 = .ok (.aload_n 0, 1) := dd197_186.2.2.2.2.2.2.2.2.2.2.2.2.2.2.2
theorem dd197_214 : (decode prog_14_method_72_code 214 = .ok (.getfield 150, 3)) ∧ (decode prog_14_method_72_code 217 = .ok (.iconst 2, 1)) ∧ (decode prog_14_method_72_code 218 = .ok (.iaload, 1)) ∧ (decode prog_14_method_72_code 219 = .ok (.putfield 40, 3)) ∧ (decode prog_14_method_72_code 222 = .ok (.aload_n 0, 1)) ∧ (decode prog_14_method_72_code 223 = .ok (.aload_n 0, 1)) ∧ (decode prog_14_method_72_code 224 = .ok (.getfield 150, 3)) ∧ (decode prog_14_method_72_code 227 = .ok (.iconst 3, 1)) ∧ (decode prog_14_method_72_code 228 = .ok (.iaload, 1)) ∧ (decode prog_14_method_72_code 229 = .ok (.putfield 257, 3)) ∧ (decode prog_14_method_72_code 232 = .ok (.aload_n 0, 1)) ∧ (decode prog_14_method_72_code 233 = .ok (.aload_n 0, 1)) ∧ (decode prog_14_method_72_code 234 = .ok (.getfield 150, 3)) ∧ (decode prog_14_method_72_code 237 = .ok (.iconst 4, 1)) ∧ (decode prog_14_method_72_code 238 = .ok (.iaload, 1)) ∧ (decode prog_14_method_72_code 239 = .ok (.putfield 260, 3)) := by decide +kernel
theorem d197_214 : decode prog_14_method_72_code 214 = .ok (.getfield 150, 3) := dd197_214.1
theorem d197_217 : decode prog_14_method_72_code 217 = .ok (.iconst 2, 1) := dd197_214.2.1
theorem d197_218 : decode prog_14_method_72_code 218 = .ok (.iaload, 1) := dd197_214.2.2.1
theorem d197_219 : decode prog_14_method_72_code 219 = .ok (.putfield 40, 3) := dd197_214.2.2.2.1
theorem d197_222 : decode prog_14_method_72_code 222 = .ok (.aload_n 0, 1) := dd197_214.2.2.2.2.1
theorem d197_223 : decode prog_14_method_72_code 223 = .ok (.aload_n 0, 1) := dd197_214.2.2.2.2.2.1
theorem d197_224 : decode prog_14_method_72_code 224 = .ok (.getfield 150, 3) := dd197_214.2.2.2.2.2.2.1
theorem d197_227 : decode prog_14_method_72_code 227 = .ok (.iconst 3, 1) := dd197_214.2.2.2.2.2.2.2.1
theorem d197_228 : decode prog_14_method_72_code 228 = .ok (.iaload, 1) := dd197_214.2.2.2.2.2.2.2.2.1
theorem d197_229 : decode prog_14_method_72_code 229 = .ok (.putfield 257, 3) := dd197_214.2.2.2.2.2.2.2.2.2.1
theorem d197_232 : decode prog_14_method_72_code 232 = .ok (.aload_n 0, 1) := dd197_214.2.2.2.2.2.2.2.2.2.2.1
theorem d197_233 : decode prog_14_method_72_code 233 = .ok (.aload_n 0, 1) := dd197_214.2.2.2.2.2.2.2.2.2.2.2.1
theorem d197_234 : decode prog_14_method_72_code 234 = .ok (.getfield 150, 3) := dd197_214.2.2.2.2.2.2.2.2.2.2.2.2.1
theorem d197_237 : decode prog_14_method_72_code 237 = .ok (.iconst 4, 1) := dd197_214.2.2.2.2.2.2.2.2.2.2.2.2.2.1
theorem d197_238 : decode prog_14_method_72_code 238 = .ok (.iaload, 1) := dd197_214.2.2.2.2.2.2.2.2.2.2.2.2.2.2.1
theorem d197_239 : decode prog_14_method_72_code 239 = .ok (.putfield 260, 3) := dd197_214.2.2.2.2.2.2.2.2.2.2.2.2.2.2.2
theorem dd197_242 : (decode prog_14_method_72_code 242 = .ok (.aload_n 0, 1)) ∧ (decode prog_14_method_72_code 243 = .ok (.getfield 159, 3)) ∧ (decode prog_14_method_72_code 246 = .ok (.ireturn, 1)) := by decide +kernel
theorem d197_242 : decode prog_14_method_72_code 242 = .ok (.aload_n 0, 1) := dd197_242.1
theorem d197_243 : decode prog_14_method_72_code 243 = .ok (.getfield 159, 3) := dd197_242.2.1
theorem d197_246 : decode prog_14_method_72_code 246 = .ok (.ireturn, 1) := dd197_242.2.2
theorem b197_0 {d : Nat} {S : mm_S} {a0 : Nat} (h0 : mm_obj S a0 12 = true) : mm_ex d 197 0 [.ref a0, .null] [] S =
    if (mm_M S a0 59) = nI 0 then mm_ex d 197 7 [.ref a0, .null] [] S else mm_ex d 197 10 [.ref a0, .null] [] S :=
  Eq.trans (mx_aload_n t197 d197_0 (x := a0) rfl) <|
  Eq.trans (mx_getz t197 d197_1 rfl fl12_371 h0) <|
  (mx_ine t197 d197_4 (tgt := 10) (by decide))
theorem b197_7 {d : Nat} {S : mm_S} {a0 : Nat} : mm_ex d 197 7 [.ref a0, .null] [] S =
    some (some (.int (-3)), S) :=
  Eq.trans (mx_bipush t197 d197_7 (v := -3) rfl) <|
  (mx_iret t197 d197_9 (ty := .int) rfl rfl (fun h => nomatch h))
theorem b197_10 {d : Nat} {S : mm_S} {a0 : Nat} (h0 : mm_obj S a0 12 = true) : mm_ex d 197 10 [.ref a0, .null] [] S =
    mm_ex d 197 20 [.ref a0, .null] [.ref a0, .ref a0] (mm_uM S a0 0 (mm_M S a0 60)) :=
  Eq.trans (mx_aload_n t197 d197_10 (x := a0) rfl) <|
  Eq.trans (mx_aload_n t197 d197_11 (x := a0) rfl) <|
  Eq.trans (mx_geti t197 d197_12 rfl fl12_374 h0) <|
  Eq.trans (mx_puti2 t197 d197_15 fl12_159 rfl h0) <|
  Eq.trans (mx_aload_n t197 d197_18 (x := a0) rfl) <|
  (mx_aload_n t197 d197_19 (x := a0) rfl)
theorem b197_20 {d : Nat} {S : mm_S} {a0 : Nat} {p0 : Nat} {p1 : Nat} (h0 : mm_obj S p0 12 = true) (h1 : mm_obj S p1 12 = true) : mm_ex d 197 20 [.ref a0, .null] [.ref p0, .ref p1] S =
    mm_ex d 197 28 [.ref a0, .null] [.ref a0, .ref a0] (mm_uM S p1 14 (mm_M S p0 61)) :=
  Eq.trans (mx_geti t197 d197_20 rfl fl12_377 h0) <|
  Eq.trans (mx_puti2 t197 d197_23 fl12_340 rfl h1) <|
  Eq.trans (mx_aload_n t197 d197_26 (x := a0) rfl) <|
  (mx_aload_n t197 d197_27 (x := a0) rfl)
theorem b197_28 {d : Nat} {S : mm_S} {a0 : Nat} {p0 : Nat} {p1 : Nat} (h0 : mm_obj S p0 12 = true) (h1 : mm_obj S p1 12 = true) : mm_ex d 197 28 [.ref a0, .null] [.ref p0, .ref p1] S =
    mm_ex d 197 36 [.ref a0, .null] [.ref a0, .ref a0] (mm_uM S p1 15 (mm_M S p0 62)) :=
  Eq.trans (mx_geti t197 d197_28 rfl fl12_380 h0) <|
  Eq.trans (mx_puti2 t197 d197_31 fl12_365 rfl h1) <|
  Eq.trans (mx_aload_n t197 d197_34 (x := a0) rfl) <|
  (mx_aload_n t197 d197_35 (x := a0) rfl)
theorem b197_36 {d : Nat} {S : mm_S} {a0 : Nat} {p0 : Nat} {p1 : Nat} (h0 : mm_obj S p0 12 = true) (h1 : mm_obj S p1 12 = true) : mm_ex d 197 36 [.ref a0, .null] [.ref p0, .ref p1] S =
    mm_ex d 197 44 [.ref a0, .int (nI 0)] [] (mm_uM S p1 18 (mm_M S p0 63)) :=
  Eq.trans (mx_geti t197 d197_36 rfl fl12_383 h0) <|
  Eq.trans (mx_puti2 t197 d197_39 fl12_46 rfl h1) <|
  Eq.trans (mx_iconst t197 d197_42 (v := nI 0) rfl) <|
  (mx_istore_n t197 d197_43 (ls' := [.ref a0, .int (nI 0)]) rfl rfl)
theorem b197_44 {d : Nat} {S : mm_S} {a0 : Nat} {x1 : Int32} : mm_ex d 197 44 [.ref a0, .int x1] [] S =
    if (nI 6) ≤ x1 then mm_ex d 197 140 [.ref a0, .int x1] [] S else mm_ex d 197 50 [.ref a0, .int x1] [] S :=
  Eq.trans (mx_iload_n t197 d197_44 (x := x1) rfl) <|
  Eq.trans (mx_bipush t197 d197_45 (v := nI 6) rfl) <|
  (mx_cge t197 d197_47 (tgt := 140) (by decide))
theorem b197_50 {d : Nat} {S : mm_S} {a0 : Nat} {x1 : Int32} (h0 : mm_obj S a0 12 = true) (h1 : (mm_R S a0 1).isSome = true) (h2 : (mm_R S a0 64).isSome = true) (h3 : mm_inb x1 (mm_N S (mm_rg S a0 64)) = true) (h4 : mm_arr S (mm_rg S a0 64) 13 = true) (h5 : mm_arr S (mm_rg S a0 1) 13 = true) (h6 : mm_inb x1 (mm_N S (mm_rg S a0 1)) = true) (h7 : (mm_R S a0 2).isSome = true) (h8 : (mm_R S a0 65).isSome = true) : mm_ex d 197 50 [.ref a0, .int x1] [] S =
    mm_ex d 197 72 [.ref a0, .int x1] [.int x1, .ref (mm_rg S a0 65), .int x1, .ref (mm_rg S a0 2)] (mm_uM S (mm_rg S a0 1) (x1).toNatClampNeg (mm_M S (mm_rg S a0 64) (x1).toNatClampNeg)) :=
  Eq.trans (mx_aload_n t197 d197_50 (x := a0) rfl) <|
  Eq.trans (mx_getR t197 d197_51 rfl fl12_9 h0 h1) <|
  Eq.trans (mx_iload_n t197 d197_54 (x := x1) rfl) <|
  Eq.trans (mx_aload_n t197 d197_55 (x := a0) rfl) <|
  Eq.trans (mx_getR t197 d197_56 rfl fl12_126 h0 h2) <|
  Eq.trans (mx_iload_n t197 d197_59 (x := x1) rfl) <|
  Eq.trans (mx_iald t197 d197_60 h4 h3) <|
  Eq.trans (mx_iast2 t197 d197_61 h5 h6) <|
  Eq.trans (mx_aload_n t197 d197_62 (x := a0) rfl) <|
  Eq.trans (mx_getR t197 d197_63 rfl fl12_15 h0 h7) <|
  Eq.trans (mx_iload_n t197 d197_66 (x := x1) rfl) <|
  Eq.trans (mx_aload_n t197 d197_67 (x := a0) rfl) <|
  Eq.trans (mx_getR t197 d197_68 rfl fl12_129 h0 h8) <|
  (mx_iload_n t197 d197_71 (x := x1) rfl)
theorem b197_72 {d : Nat} {S : mm_S} {a0 : Nat} {x1 : Int32} {p0 : Int32} {p1 : Nat} {p2 : Int32} {p3 : Nat} (h0 : mm_inb p0 (mm_N S p1) = true) (h1 : mm_arr S p1 13 = true) (h2 : mm_arr S p3 13 = true) (h3 : mm_inb p2 (mm_N S p3) = true) (h4 : mm_obj S a0 12 = true) (h5 : (mm_R S a0 3).isSome = true) (h6 : (mm_R S a0 66).isSome = true) : mm_ex d 197 72 [.ref a0, .int x1] [.int p0, .ref p1, .int p2, .ref p3] S =
    mm_ex d 197 84 [.ref a0, .int x1] [.int x1, .ref (mm_rg S a0 66), .int x1, .ref (mm_rg S a0 3)] (mm_uM S p3 (p2).toNatClampNeg (mm_M S p1 (p0).toNatClampNeg)) :=
  Eq.trans (mx_iald t197 d197_72 h1 h0) <|
  Eq.trans (mx_iast2 t197 d197_73 h2 h3) <|
  Eq.trans (mx_aload_n t197 d197_74 (x := a0) rfl) <|
  Eq.trans (mx_getR t197 d197_75 rfl fl12_18 h4 h5) <|
  Eq.trans (mx_iload_n t197 d197_78 (x := x1) rfl) <|
  Eq.trans (mx_aload_n t197 d197_79 (x := a0) rfl) <|
  Eq.trans (mx_getR t197 d197_80 rfl fl12_132 h4 h6) <|
  (mx_iload_n t197 d197_83 (x := x1) rfl)
theorem b197_84 {d : Nat} {S : mm_S} {a0 : Nat} {x1 : Int32} {p0 : Int32} {p1 : Nat} {p2 : Int32} {p3 : Nat} (h0 : mm_inb p0 (mm_N S p1) = true) (h1 : mm_arr S p1 13 = true) (h2 : mm_arr S p3 13 = true) (h3 : mm_inb p2 (mm_N S p3) = true) (h4 : mm_obj S a0 12 = true) (h5 : (mm_R S a0 4).isSome = true) (h6 : (mm_R S a0 67).isSome = true) : mm_ex d 197 84 [.ref a0, .int x1] [.int p0, .ref p1, .int p2, .ref p3] S =
    mm_ex d 197 96 [.ref a0, .int x1] [.int x1, .ref (mm_rg S a0 67), .int x1, .ref (mm_rg S a0 4)] (mm_uM S p3 (p2).toNatClampNeg (mm_M S p1 (p0).toNatClampNeg)) :=
  Eq.trans (mx_iald t197 d197_84 h1 h0) <|
  Eq.trans (mx_iast2 t197 d197_85 h2 h3) <|
  Eq.trans (mx_aload_n t197 d197_86 (x := a0) rfl) <|
  Eq.trans (mx_getR t197 d197_87 rfl fl12_21 h4 h5) <|
  Eq.trans (mx_iload_n t197 d197_90 (x := x1) rfl) <|
  Eq.trans (mx_aload_n t197 d197_91 (x := a0) rfl) <|
  Eq.trans (mx_getR t197 d197_92 rfl fl12_135 h4 h6) <|
  (mx_iload_n t197 d197_95 (x := x1) rfl)
theorem b197_96 {d : Nat} {S : mm_S} {a0 : Nat} {x1 : Int32} {p0 : Int32} {p1 : Nat} {p2 : Int32} {p3 : Nat} (h0 : mm_inb p0 (mm_N S p1) = true) (h1 : mm_arr S p1 13 = true) (h2 : mm_arr S p3 13 = true) (h3 : mm_inb p2 (mm_N S p3) = true) (h4 : mm_obj S a0 12 = true) (h5 : (mm_R S a0 5).isSome = true) (h6 : (mm_R S a0 68).isSome = true) : mm_ex d 197 96 [.ref a0, .int x1] [.int p0, .ref p1, .int p2, .ref p3] S =
    mm_ex d 197 108 [.ref a0, .int x1] [.int x1, .ref (mm_rg S a0 68), .int x1, .ref (mm_rg S a0 5)] (mm_uM S p3 (p2).toNatClampNeg (mm_M S p1 (p0).toNatClampNeg)) :=
  Eq.trans (mx_iald t197 d197_96 h1 h0) <|
  Eq.trans (mx_iast2 t197 d197_97 h2 h3) <|
  Eq.trans (mx_aload_n t197 d197_98 (x := a0) rfl) <|
  Eq.trans (mx_getR t197 d197_99 rfl fl12_24 h4 h5) <|
  Eq.trans (mx_iload_n t197 d197_102 (x := x1) rfl) <|
  Eq.trans (mx_aload_n t197 d197_103 (x := a0) rfl) <|
  Eq.trans (mx_getR t197 d197_104 rfl fl12_138 h4 h6) <|
  (mx_iload_n t197 d197_107 (x := x1) rfl)
theorem b197_108 {d : Nat} {S : mm_S} {a0 : Nat} {x1 : Int32} {p0 : Int32} {p1 : Nat} {p2 : Int32} {p3 : Nat} (h0 : mm_inb p0 (mm_N S p1) = true) (h1 : mm_arr S p1 13 = true) (h2 : mm_arr S p3 13 = true) (h3 : mm_inb p2 (mm_N S p3) = true) (h4 : mm_obj S a0 12 = true) (h5 : (mm_R S a0 6).isSome = true) (h6 : (mm_R S a0 69).isSome = true) : mm_ex d 197 108 [.ref a0, .int x1] [.int p0, .ref p1, .int p2, .ref p3] S =
    mm_ex d 197 120 [.ref a0, .int x1] [.int x1, .ref (mm_rg S a0 69), .int x1, .ref (mm_rg S a0 6)] (mm_uM S p3 (p2).toNatClampNeg (mm_M S p1 (p0).toNatClampNeg)) :=
  Eq.trans (mx_iald t197 d197_108 h1 h0) <|
  Eq.trans (mx_iast2 t197 d197_109 h2 h3) <|
  Eq.trans (mx_aload_n t197 d197_110 (x := a0) rfl) <|
  Eq.trans (mx_getR t197 d197_111 rfl fl12_27 h4 h5) <|
  Eq.trans (mx_iload_n t197 d197_114 (x := x1) rfl) <|
  Eq.trans (mx_aload_n t197 d197_115 (x := a0) rfl) <|
  Eq.trans (mx_getR t197 d197_116 rfl fl12_141 h4 h6) <|
  (mx_iload_n t197 d197_119 (x := x1) rfl)
theorem b197_120 {d : Nat} {S : mm_S} {a0 : Nat} {x1 : Int32} {p0 : Int32} {p1 : Nat} {p2 : Int32} {p3 : Nat} (h0 : mm_inb p0 (mm_N S p1) = true) (h1 : mm_arr S p1 13 = true) (h2 : mm_arr S p3 13 = true) (h3 : mm_inb p2 (mm_N S p3) = true) (h4 : mm_obj S a0 12 = true) (h5 : (mm_R S a0 9).isSome = true) (h6 : (mm_R S a0 71).isSome = true) : mm_ex d 197 120 [.ref a0, .int x1] [.int p0, .ref p1, .int p2, .ref p3] S =
    mm_ex d 197 132 [.ref a0, .int x1] [.int x1, .ref (mm_rg S a0 71), .int x1, .ref (mm_rg S a0 9)] (mm_uM S p3 (p2).toNatClampNeg (mm_M S p1 (p0).toNatClampNeg)) :=
  Eq.trans (mx_iald t197 d197_120 h1 h0) <|
  Eq.trans (mx_iast2 t197 d197_121 h2 h3) <|
  Eq.trans (mx_aload_n t197 d197_122 (x := a0) rfl) <|
  Eq.trans (mx_getR t197 d197_123 rfl fl12_33 h4 h5) <|
  Eq.trans (mx_iload_n t197 d197_126 (x := x1) rfl) <|
  Eq.trans (mx_aload_n t197 d197_127 (x := a0) rfl) <|
  Eq.trans (mx_getR t197 d197_128 rfl fl12_147 h4 h6) <|
  (mx_iload_n t197 d197_131 (x := x1) rfl)
theorem b197_132 {d : Nat} {S : mm_S} {a0 : Nat} {x1 : Int32} {p0 : Int32} {p1 : Nat} {p2 : Int32} {p3 : Nat} (h0 : mm_inb p0 (mm_N S p1) = true) (h1 : mm_arr S p1 13 = true) (h2 : mm_arr S p3 13 = true) (h3 : mm_inb p2 (mm_N S p3) = true) : mm_ex d 197 132 [.ref a0, .int x1] [.int p0, .ref p1, .int p2, .ref p3] S =
    mm_ex d 197 44 [.ref a0, .int (x1 + nI 1)] [] (mm_uM S p3 (p2).toNatClampNeg (mm_M S p1 (p0).toNatClampNeg)) :=
  Eq.trans (mx_iald t197 d197_132 h1 h0) <|
  Eq.trans (mx_iast2 t197 d197_133 h2 h3) <|
  Eq.trans (mx_iinc t197 d197_134 (x := x1) (v := nI 1) (ls' := [.ref a0, .int (x1 + nI 1)]) rfl rfl rfl rfl) <|
  (mx_goto t197 d197_137 (tgt := 44) (by decide))
theorem b197_140 {d : Nat} {S : mm_S} {a0 : Nat} {x1 : Int32} : mm_ex d 197 140 [.ref a0, .int x1] [] S =
    mm_ex d 197 142 [.ref a0, .int (nI 0)] [] S :=
  Eq.trans (mx_iconst t197 d197_140 (v := nI 0) rfl) <|
  (mx_istore_n t197 d197_141 (ls' := [.ref a0, .int (nI 0)]) rfl rfl)
theorem b197_142 {d : Nat} {S : mm_S} {a0 : Nat} {x1 : Int32} : mm_ex d 197 142 [.ref a0, .int x1] [] S =
    if (nI 18) ≤ x1 then mm_ex d 197 166 [.ref a0, .int x1] [] S else mm_ex d 197 148 [.ref a0, .int x1] [] S :=
  Eq.trans (mx_iload_n t197 d197_142 (x := x1) rfl) <|
  Eq.trans (mx_bipush t197 d197_143 (v := nI 18) rfl) <|
  (mx_cge t197 d197_145 (tgt := 166) (by decide))
theorem b197_148 {d : Nat} {S : mm_S} {a0 : Nat} {x1 : Int32} (h0 : mm_obj S a0 12 = true) (h1 : (mm_R S a0 7).isSome = true) (h2 : (mm_R S a0 70).isSome = true) (h3 : mm_inb x1 (mm_N S (mm_rg S a0 70)) = true) (h4 : mm_arr S (mm_rg S a0 70) 13 = true) (h5 : mm_arr S (mm_rg S a0 7) 13 = true) (h6 : mm_inb x1 (mm_N S (mm_rg S a0 7)) = true) : mm_ex d 197 148 [.ref a0, .int x1] [] S =
    mm_ex d 197 142 [.ref a0, .int (x1 + nI 1)] [] (mm_uM S (mm_rg S a0 7) (x1).toNatClampNeg (mm_M S (mm_rg S a0 70) (x1).toNatClampNeg)) :=
  Eq.trans (mx_aload_n t197 d197_148 (x := a0) rfl) <|
  Eq.trans (mx_getR t197 d197_149 rfl fl12_30 h0 h1) <|
  Eq.trans (mx_iload_n t197 d197_152 (x := x1) rfl) <|
  Eq.trans (mx_aload_n t197 d197_153 (x := a0) rfl) <|
  Eq.trans (mx_getR t197 d197_154 rfl fl12_144 h0 h2) <|
  Eq.trans (mx_iload_n t197 d197_157 (x := x1) rfl) <|
  Eq.trans (mx_iald t197 d197_158 h4 h3) <|
  Eq.trans (mx_iast2 t197 d197_159 h5 h6) <|
  Eq.trans (mx_iinc t197 d197_160 (x := x1) (v := nI 1) (ls' := [.ref a0, .int (x1 + nI 1)]) rfl rfl rfl rfl) <|
  (mx_goto t197 d197_163 (tgt := 142) (by decide))
theorem b197_166 {d : Nat} {S : mm_S} {a0 : Nat} {x1 : Int32} : mm_ex d 197 166 [.ref a0, .int x1] [] S =
    mm_ex d 197 168 [.ref a0, .int (nI 0)] [] S :=
  Eq.trans (mx_iconst t197 d197_166 (v := nI 0) rfl) <|
  (mx_istore_n t197 d197_167 (ls' := [.ref a0, .int (nI 0)]) rfl rfl)
theorem b197_168 {d : Nat} {S : mm_S} {a0 : Nat} {x1 : Int32} : mm_ex d 197 168 [.ref a0, .int x1] [] S =
    if (nI 12) ≤ x1 then mm_ex d 197 192 [.ref a0, .int x1] [] S else mm_ex d 197 174 [.ref a0, .int x1] [] S :=
  Eq.trans (mx_iload_n t197 d197_168 (x := x1) rfl) <|
  Eq.trans (mx_bipush t197 d197_169 (v := nI 12) rfl) <|
  (mx_cge t197 d197_171 (tgt := 192) (by decide))
theorem b197_174 {d : Nat} {S : mm_S} {a0 : Nat} {x1 : Int32} (h0 : mm_obj S a0 12 = true) (h1 : (mm_R S a0 16).isSome = true) (h2 : (mm_R S a0 73).isSome = true) (h3 : mm_inb x1 (mm_N S (mm_rg S a0 73)) = true) (h4 : mm_arr S (mm_rg S a0 73) 13 = true) (h5 : mm_arr S (mm_rg S a0 16) 13 = true) (h6 : mm_inb x1 (mm_N S (mm_rg S a0 16)) = true) : mm_ex d 197 174 [.ref a0, .int x1] [] S =
    mm_ex d 197 168 [.ref a0, .int (x1 + nI 1)] [] (mm_uM S (mm_rg S a0 16) (x1).toNatClampNeg (mm_M S (mm_rg S a0 73) (x1).toNatClampNeg)) :=
  Eq.trans (mx_aload_n t197 d197_174 (x := a0) rfl) <|
  Eq.trans (mx_getR t197 d197_175 rfl fl12_43 h0 h1) <|
  Eq.trans (mx_iload_n t197 d197_178 (x := x1) rfl) <|
  Eq.trans (mx_aload_n t197 d197_179 (x := a0) rfl) <|
  Eq.trans (mx_getR t197 d197_180 rfl fl12_153 h0 h2) <|
  Eq.trans (mx_iload_n t197 d197_183 (x := x1) rfl) <|
  Eq.trans (mx_iald t197 d197_184 h4 h3) <|
  Eq.trans (mx_iast2 t197 d197_185 h5 h6) <|
  Eq.trans (mx_iinc t197 d197_186 (x := x1) (v := nI 1) (ls' := [.ref a0, .int (x1 + nI 1)]) rfl rfl rfl rfl) <|
  (mx_goto t197 d197_189 (tgt := 168) (by decide))
theorem b197_192 {d : Nat} {S : mm_S} {a0 : Nat} {x1 : Int32} (h0 : mm_obj S a0 12 = true) (h1 : (mm_R S a0 72).isSome = true) (h2 : mm_inb (nI 0) (mm_N S (mm_rg S a0 72)) = true) (h3 : mm_arr S (mm_rg S a0 72) 13 = true) : mm_ex d 197 192 [.ref a0, .int x1] [] S =
    mm_ex d 197 208 [.ref a0, .int x1] [.int (nI 1), .ref (mm_rg S a0 72), .ref a0] (mm_uM S a0 8 (mm_M S (mm_rg S a0 72) (nI 0).toNatClampNeg)) :=
  Eq.trans (mx_aload_n t197 d197_192 (x := a0) rfl) <|
  Eq.trans (mx_aload_n t197 d197_193 (x := a0) rfl) <|
  Eq.trans (mx_getR t197 d197_194 rfl fl12_150 h0 h1) <|
  Eq.trans (mx_iconst t197 d197_197 (v := nI 0) rfl) <|
  Eq.trans (mx_iald t197 d197_198 h3 h2) <|
  Eq.trans (mx_puti2 t197 d197_199 fl12_166 rfl h0) <|
  Eq.trans (mx_aload_n t197 d197_202 (x := a0) rfl) <|
  Eq.trans (mx_aload_n t197 d197_203 (x := a0) rfl) <|
  Eq.trans (mx_getR t197 d197_204 rfl fl12_150 h0 h1) <|
  (mx_iconst t197 d197_207 (v := nI 1) rfl)
theorem b197_208 {d : Nat} {S : mm_S} {a0 : Nat} {x1 : Int32} {p0 : Int32} {p1 : Nat} {p2 : Nat} (h0 : mm_inb p0 (mm_N S p1) = true) (h1 : mm_arr S p1 13 = true) (h2 : mm_obj S p2 12 = true) (h3 : mm_obj S a0 12 = true) (h4 : (mm_R S a0 72).isSome = true) : mm_ex d 197 208 [.ref a0, .int x1] [.int p0, .ref p1, .ref p2] S =
    mm_ex d 197 218 [.ref a0, .int x1] [.int (nI 2), .ref (mm_rg S a0 72), .ref a0] (mm_uM S p2 10 (mm_M S p1 (p0).toNatClampNeg)) :=
  Eq.trans (mx_iald t197 d197_208 h1 h0) <|
  Eq.trans (mx_puti2 t197 d197_209 fl12_36 rfl h2) <|
  Eq.trans (mx_aload_n t197 d197_212 (x := a0) rfl) <|
  Eq.trans (mx_aload_n t197 d197_213 (x := a0) rfl) <|
  Eq.trans (mx_getR t197 d197_214 rfl fl12_150 h3 h4) <|
  (mx_iconst t197 d197_217 (v := nI 2) rfl)
theorem b197_218 {d : Nat} {S : mm_S} {a0 : Nat} {x1 : Int32} {p0 : Int32} {p1 : Nat} {p2 : Nat} (h0 : mm_inb p0 (mm_N S p1) = true) (h1 : mm_arr S p1 13 = true) (h2 : mm_obj S p2 12 = true) (h3 : mm_obj S a0 12 = true) (h4 : (mm_R S a0 72).isSome = true) : mm_ex d 197 218 [.ref a0, .int x1] [.int p0, .ref p1, .ref p2] S =
    mm_ex d 197 228 [.ref a0, .int x1] [.int (nI 3), .ref (mm_rg S a0 72), .ref a0] (mm_uM S p2 11 (mm_M S p1 (p0).toNatClampNeg)) :=
  Eq.trans (mx_iald t197 d197_218 h1 h0) <|
  Eq.trans (mx_puti2 t197 d197_219 fl12_40 rfl h2) <|
  Eq.trans (mx_aload_n t197 d197_222 (x := a0) rfl) <|
  Eq.trans (mx_aload_n t197 d197_223 (x := a0) rfl) <|
  Eq.trans (mx_getR t197 d197_224 rfl fl12_150 h3 h4) <|
  (mx_iconst t197 d197_227 (v := nI 3) rfl)
theorem b197_228 {d : Nat} {S : mm_S} {a0 : Nat} {x1 : Int32} {p0 : Int32} {p1 : Nat} {p2 : Nat} (h0 : mm_inb p0 (mm_N S p1) = true) (h1 : mm_arr S p1 13 = true) (h2 : mm_obj S p2 12 = true) (h3 : mm_obj S a0 12 = true) (h4 : (mm_R S a0 72).isSome = true) : mm_ex d 197 228 [.ref a0, .int x1] [.int p0, .ref p1, .ref p2] S =
    mm_ex d 197 238 [.ref a0, .int x1] [.int (nI 4), .ref (mm_rg S a0 72), .ref a0] (mm_uM S p2 12 (mm_M S p1 (p0).toNatClampNeg)) :=
  Eq.trans (mx_iald t197 d197_228 h1 h0) <|
  Eq.trans (mx_puti2 t197 d197_229 fl12_257 rfl h2) <|
  Eq.trans (mx_aload_n t197 d197_232 (x := a0) rfl) <|
  Eq.trans (mx_aload_n t197 d197_233 (x := a0) rfl) <|
  Eq.trans (mx_getR t197 d197_234 rfl fl12_150 h3 h4) <|
  (mx_iconst t197 d197_237 (v := nI 4) rfl)
theorem b197_238 {d : Nat} {S : mm_S} {a0 : Nat} {x1 : Int32} {p0 : Int32} {p1 : Nat} {p2 : Nat} (h0 : mm_inb p0 (mm_N S p1) = true) (h1 : mm_arr S p1 13 = true) (h2 : mm_obj S p2 12 = true) : mm_ex d 197 238 [.ref a0, .int x1] [.int p0, .ref p1, .ref p2] S =
    mm_ex d 197 243 [.ref a0, .int x1] [.ref a0] (mm_uM S p2 13 (mm_M S p1 (p0).toNatClampNeg)) :=
  Eq.trans (mx_iald t197 d197_238 h1 h0) <|
  Eq.trans (mx_puti2 t197 d197_239 fl12_260 rfl h2) <|
  (mx_aload_n t197 d197_242 (x := a0) rfl)
theorem b197_243 {d : Nat} {S : mm_S} {a0 : Nat} {x1 : Int32} {p0 : Nat} (h0 : mm_obj S p0 12 = true) : mm_ex d 197 243 [.ref a0, .int x1] [.ref p0] S =
    some (some (.int (mm_M S p0 0)), S) :=
  Eq.trans (mx_geti t197 d197_243 rfl fl12_159 h0) <|
  (mx_iret t197 d197_246 (ty := .int) rfl rfl (fun h => nomatch h))
theorem e197 {d : Nat} {S : mm_S} {a0 : Nat} : mm_cl d 197 [.ref a0] S = mm_ex d 197 0 [.ref a0, .null] [] S := mm_cl_eq t197 (Nat.le_of_ble_eq_true rfl) rfl
