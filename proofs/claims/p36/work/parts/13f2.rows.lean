/-! X11_swapInLineup -/
theorem d123_0 : decode prog_1_method_52_code 0 = .ok (.aload_n 0, 1) := by decide +kernel
theorem d123_1 : decode prog_1_method_52_code 1 = .ok (.getfield 54, 3) := by decide +kernel
theorem d123_4 : decode prog_1_method_52_code 4 = .ok (.iload_n 1, 1) := by decide +kernel
theorem d123_5 : decode prog_1_method_52_code 5 = .ok (.iaload, 1) := by decide +kernel
theorem d123_6 : decode prog_1_method_52_code 6 = .ok (.istore_n 3, 1) := by decide +kernel
theorem d123_7 : decode prog_1_method_52_code 7 = .ok (.aload_n 0, 1) := by decide +kernel
theorem d123_8 : decode prog_1_method_52_code 8 = .ok (.getfield 54, 3) := by decide +kernel
theorem d123_11 : decode prog_1_method_52_code 11 = .ok (.iload_n 1, 1) := by decide +kernel
theorem d123_12 : decode prog_1_method_52_code 12 = .ok (.aload_n 0, 1) := by decide +kernel
theorem d123_13 : decode prog_1_method_52_code 13 = .ok (.getfield 54, 3) := by decide +kernel
theorem d123_16 : decode prog_1_method_52_code 16 = .ok (.iload_n 2, 1) := by decide +kernel
theorem d123_17 : decode prog_1_method_52_code 17 = .ok (.iaload, 1) := by decide +kernel
theorem d123_18 : decode prog_1_method_52_code 18 = .ok (.iastore, 1) := by decide +kernel
theorem d123_19 : decode prog_1_method_52_code 19 = .ok (.aload_n 0, 1) := by decide +kernel
theorem d123_20 : decode prog_1_method_52_code 20 = .ok (.getfield 54, 3) := by decide +kernel
theorem d123_23 : decode prog_1_method_52_code 23 = .ok (.iload_n 2, 1) := by decide +kernel
theorem d123_24 : decode prog_1_method_52_code 24 = .ok (.iload_n 3, 1) := by decide +kernel
theorem d123_25 : decode prog_1_method_52_code 25 = .ok (.iastore, 1) := by decide +kernel
theorem d123_26 : decode prog_1_method_52_code 26 = .ok (.return_, 1) := by decide +kernel
theorem b123_0 {d : Nat} {S : mm_S} {a0 : Nat} {x1 : Int32} {x2 : Int32} (h0 : mm_obj S a0 11 = true) (h1 : (mm_R S a0 8).isSome = true) (h2 : mm_inb x1 (mm_N S (mm_rg S a0 8)) = true) (h3 : mm_arr S (mm_rg S a0 8) 13 = true) (h4 : mm_inb x2 (mm_N S (mm_rg S a0 8)) = true) : mm_ex d 123 0 [.ref a0, .int x1, .int x2, .null] [] S =
    some (none, (mm_uM (mm_uM S (mm_rg S a0 8) (x1).toNatClampNeg (mm_M S (mm_rg S a0 8) (x2).toNatClampNeg)) (mm_rg S a0 8) (x2).toNatClampNeg (mm_M S (mm_rg S a0 8) (x1).toNatClampNeg))) :=
  Eq.trans (mx_aload_n t123 d123_0 (x := a0) rfl) <|
  Eq.trans (mx_getR t123 d123_1 rfl fl11_54 h0 h1) <|
  Eq.trans (mx_iload_n t123 d123_4 (x := x1) rfl) <|
  Eq.trans (mx_iald t123 d123_5 h3 h2) <|
  Eq.trans (mx_istore_n t123 d123_6 (ls' := [.ref a0, .int x1, .int x2, .int (mm_M S (mm_rg S a0 8) (x1).toNatClampNeg)]) rfl rfl) <|
  Eq.trans (mx_aload_n t123 d123_7 (x := a0) rfl) <|
  Eq.trans (mx_getR t123 d123_8 rfl fl11_54 h0 h1) <|
  Eq.trans (mx_iload_n t123 d123_11 (x := x1) rfl) <|
  Eq.trans (mx_aload_n t123 d123_12 (x := a0) rfl) <|
  Eq.trans (mx_getR t123 d123_13 rfl fl11_54 h0 h1) <|
  Eq.trans (mx_iload_n t123 d123_16 (x := x2) rfl) <|
  Eq.trans (mx_iald t123 d123_17 h3 h4) <|
  Eq.trans (mx_iast2 t123 d123_18 h3 h2) <|
  Eq.trans (mx_aload_n t123 d123_19 (x := a0) rfl) <|
  Eq.trans (mx_getR t123 d123_20 rfl fl11_54 h0 h1) <|
  Eq.trans (mx_iload_n t123 d123_23 (x := x2) rfl) <|
  Eq.trans (mx_iload_n t123 d123_24 (x := mm_M S (mm_rg S a0 8) (x1).toNatClampNeg) rfl) <|
  Eq.trans (mx_iast2 t123 d123_25 h3 h4) <|
  (mx_vret t123 d123_26 rfl)
theorem e123 {d : Nat} {S : mm_S} {a0 : Nat} {x1 : Int32} {x2 : Int32} : mm_cl d 123 [.ref a0, .int x1, .int x2] S = mm_ex d 123 0 [.ref a0, .int x1, .int x2, .null] [] S := mm_cl_eq t123 (Nat.le_of_ble_eq_true rfl) rfl
/-! X11_weightOf -/
theorem dd124_0 : (decode prog_1_method_53_code 0 = .ok (.lconst 1, 1)) ∧ (decode prog_1_method_53_code 1 = .ok (.lstore_n 2, 1)) ∧ (decode prog_1_method_53_code 2 = .ok (.iconst 0, 1)) ∧ (decode prog_1_method_53_code 3 = .ok (.istore 4, 2)) ∧ (decode prog_1_method_53_code 5 = .ok (.iload 4, 2)) ∧ (decode prog_1_method_53_code 7 = .ok (.aload_n 0, 1)) ∧ (decode prog_1_method_53_code 8 = .ok (.getfield 17, 3)) ∧ (decode prog_1_method_53_code 11 = .ok (.getfield 177, 3)) ∧ (decode prog_1_method_53_code 14 = .ok (.if_icmp .ge 44, 3)) ∧ (decode prog_1_method_53_code 17 = .ok (.lload_n 2, 1)) ∧ (decode prog_1_method_53_code 18 = .ok (.iload_n 1, 1)) ∧ (decode prog_1_method_53_code 19 = .ok (.iload 4, 2)) ∧ (decode prog_1_method_53_code 21 = .ok (.ishr, 1)) ∧ (decode prog_1_method_53_code 22 = .ok (.iconst 1, 1)) ∧ (decode prog_1_method_53_code 23 = .ok (.iand, 1)) ∧ (decode prog_1_method_53_code 24 = .ok (.iconst 1, 1)) := by decide +kernel
theorem d124_0 : decode prog_1_method_53_code 0 = .ok (.lconst 1, 1) := dd124_0.1
theorem d124_1 : decode prog_1_method_53_code 1 = .ok (.lstore_n 2, 1) := dd124_0.2.1
theorem d124_2 : decode prog_1_method_53_code 2 = .ok (.iconst 0, 1) := dd124_0.2.2.1
theorem d124_3 : decode prog_1_method_53_code 3 = .ok (.istore 4, 2) := dd124_0.2.2.2.1
theorem d124_5 : decode prog_1_method_53_code 5 = .ok (.iload 4, 2) := dd124_0.2.2.2.2.1
theorem d124_7 : decode prog_1_method_53_code 7 = .ok (.aload_n 0, 1) := dd124_0.2.2.2.2.2.1
theorem d124_8 : decode prog_1_method_53_code 8 = .ok (.getfield 17, 3) := dd124_0.2.2.2.2.2.2.1
theorem d124_11 : decode prog_1_method_53_code 11 = .ok (.getfield 177, 3) := dd124_0.2.2.2.2.2.2.2.1
theorem d124_14 : decode prog_1_method_53_code 14 = .ok (.if_icmp .ge 44, 3) := dd124_0.2.2.2.2.2.2.2.2.1
theorem d124_17 : decode prog_1_method_53_code 17 = .ok (.lload_n 2, 1) := dd124_0.2.2.2.2.2.2.2.2.2.1
theorem d124_18 : decode prog_1_method_53_code 18 = .ok (.iload_n 1, 1) := dd124_0.2.2.2.2.2.2.2.2.2.2.1
theorem d124_19 : decode prog_1_method_53_code 19 = .ok (.iload 4, 2) := dd124_0.2.2.2.2.2.2.2.2.2.2.2.1
theorem d124_21 : decode prog_1_method_53_code 21 = .ok (.ishr, 1) := dd124_0.2.2.2.2.2.2.2.2.2.2.2.2.1
theorem d124_22 : decode prog_1_method_53_code 22 = .ok (.iconst 1, 1) := dd124_0.2.2.2.2.2.2.2.2.2.2.2.2.2.1
theorem d124_23 : decode prog_1_method_53_code 23 = .ok (.iand, 1) := dd124_0.2.2.2.2.2.2.2.2.2.2.2.2.2.2.1
theorem d124_24 : decode prog_1_method_53_code 24 = .ok (.iconst 1, 1) := dd124_0.2.2.2.2.2.2.2.2.2.2.2.2.2.2.2
theorem dd124_25 : (decode prog_1_method_53_code 25 = .ok (.if_icmp .ne 14, 3)) ∧ (decode prog_1_method_53_code 28 = .ok (.aload_n 0, 1)) ∧ (decode prog_1_method_53_code 29 = .ok (.getfield 17, 3)) ∧ (decode prog_1_method_53_code 32 = .ok (.getfield 258, 3)) ∧ (decode prog_1_method_53_code 35 = .ok (.i2l, 1)) ∧ (decode prog_1_method_53_code 36 = .ok (.goto 14, 3)) ∧ (decode prog_1_method_53_code 39 = .ok (.bipush 10, 2)) ∧ (decode prog_1_method_53_code 41 = .ok (.aload_n 0, 1)) ∧ (decode prog_1_method_53_code 42 = .ok (.getfield 17, 3)) ∧ (decode prog_1_method_53_code 45 = .ok (.getfield 258, 3)) ∧ (decode prog_1_method_53_code 48 = .ok (.isub, 1)) ∧ (decode prog_1_method_53_code 49 = .ok (.i2l, 1)) ∧ (decode prog_1_method_53_code 50 = .ok (.lmul, 1)) ∧ (decode prog_1_method_53_code 51 = .ok (.lstore_n 2, 1)) ∧ (decode prog_1_method_53_code 52 = .ok (.iinc 4 1, 3)) ∧ (decode prog_1_method_53_code 55 = .ok (.goto (-50), 3)) := by decide +kernel
theorem d124_25 : decode prog_1_method_53_code 25 = .ok (.if_icmp .ne 14, 3) := dd124_25.1
theorem d124_28 : decode prog_1_method_53_code 28 = .ok (.aload_n 0, 1) := dd124_25.2.1
theorem d124_29 : decode prog_1_method_53_code 29 = .ok (.getfield 17, 3) := dd124_25.2.2.1
theorem d124_32 : decode prog_1_method_53_code 32 = .ok (.getfield 258, 3) := dd124_25.2.2.2.1
theorem d124_35 : decode prog_1_method_53_code 35 = .ok (.i2l, 1) := dd124_25.2.2.2.2.1
theorem d124_36 : decode prog_1_method_53_code 36 = .ok (.goto 14, 3) := dd124_25.2.2.2.2.2.1
theorem d124_39 : decode prog_1_method_53_code 39 = .ok (.bipush 10, 2) := dd124_25.2.2.2.2.2.2.1
theorem d124_41 : decode prog_1_method_53_code 41 = .ok (.aload_n 0, 1) := dd124_25.2.2.2.2.2.2.2.1
theorem d124_42 : decode prog_1_method_53_code 42 = .ok (.getfield 17, 3) := dd124_25.2.2.2.2.2.2.2.2.1
theorem d124_45 : decode prog_1_method_53_code 45 = .ok (.getfield 258, 3) := dd124_25.2.2.2.2.2.2.2.2.2.1
theorem d124_48 : decode prog_1_method_53_code 48 = .ok (.isub, 1) := dd124_25.2.2.2.2.2.2.2.2.2.2.1
theorem d124_49 : decode prog_1_method_53_code 49 = .ok (.i2l, 1) := dd124_25.2.2.2.2.2.2.2.2.2.2.2.1
theorem d124_50 : decode prog_1_method_53_code 50 = .ok (.lmul, 1) := dd124_25.2.2.2.2.2.2.2.2.2.2.2.2.1
theorem d124_51 : decode prog_1_method_53_code 51 = .ok (.lstore_n 2, 1) := dd124_25.2.2.2.2.2.2.2.2.2.2.2.2.2.1
theorem d124_52 : decode prog_1_method_53_code 52 = .ok (.iinc 4 1, 3) := dd124_25.2.2.2.2.2.2.2.2.2.2.2.2.2.2.1
theorem d124_55 : decode prog_1_method_53_code 55 = .ok (.goto (-50), 3) := dd124_25.2.2.2.2.2.2.2.2.2.2.2.2.2.2.2
theorem dd124_58 : (decode prog_1_method_53_code 58 = .ok (.lload_n 2, 1)) ∧ (decode prog_1_method_53_code 59 = .ok (.lreturn, 1)) := by decide +kernel
theorem d124_58 : decode prog_1_method_53_code 58 = .ok (.lload_n 2, 1) := dd124_58.1
theorem d124_59 : decode prog_1_method_53_code 59 = .ok (.lreturn, 1) := dd124_58.2
theorem b124_0 {d : Nat} {S : mm_S} {a0 : Nat} {x1 : Int32} : mm_ex d 124 0 [.ref a0, .int x1, .null, .null, .null] [] S =
    mm_ex d 124 5 [.ref a0, .int x1, .long 1, .null, .int (nI 0)] [] S :=
  Eq.trans (mx_lconst t124 d124_0 (v := 1) rfl) <|
  Eq.trans (mx_lstore_n t124 d124_1 (ls' := [.ref a0, .int x1, .long 1, .null, .null]) rfl rfl) <|
  Eq.trans (mx_iconst t124 d124_2 (v := nI 0) rfl) <|
  (mx_istore t124 d124_3 (ls' := [.ref a0, .int x1, .long 1, .null, .int (nI 0)]) rfl rfl)
theorem b124_5 {d : Nat} {S : mm_S} {a0 : Nat} {x1 : Int32} {j2 : Int64} {x4 : Int32} (h0 : mm_obj S a0 11 = true) (h1 : (mm_R S a0 0).isSome = true) (h2 : mm_obj S (mm_rg S a0 0) 1 = true) : mm_ex d 124 5 [.ref a0, .int x1, .long j2, .null, .int x4] [] S =
    if (mm_M S (mm_rg S a0 0) 11) ≤ x4 then mm_ex d 124 58 [.ref a0, .int x1, .long j2, .null, .int x4] [] S else mm_ex d 124 17 [.ref a0, .int x1, .long j2, .null, .int x4] [] S :=
  Eq.trans (mx_iload t124 d124_5 (x := x4) rfl) <|
  Eq.trans (mx_aload_n t124 d124_7 (x := a0) rfl) <|
  Eq.trans (mx_getR t124 d124_8 rfl fl11_17 h0 h1) <|
  Eq.trans (mx_geti t124 d124_11 rfl fl11_177 h2) <|
  (mx_cge t124 d124_14 (tgt := 58) (by decide))
theorem b124_17 {d : Nat} {S : mm_S} {a0 : Nat} {x1 : Int32} {j2 : Int64} {x4 : Int32} : mm_ex d 124 17 [.ref a0, .int x1, .long j2, .null, .int x4] [] S =
    if ((x1 >>> (x4 &&& 31)) &&& (nI 1)) = (nI 1) then mm_ex d 124 28 [.ref a0, .int x1, .long j2, .null, .int x4] [.long j2] S else mm_ex d 124 39 [.ref a0, .int x1, .long j2, .null, .int x4] [.long j2] S :=
  Eq.trans (mx_lload_n t124 d124_17 (x := j2) rfl) <|
  Eq.trans (mx_iload_n t124 d124_18 (x := x1) rfl) <|
  Eq.trans (mx_iload t124 d124_19 (x := x4) rfl) <|
  Eq.trans (mx_ishr t124 d124_21) <|
  Eq.trans (mx_iconst t124 d124_22 (v := nI 1) rfl) <|
  Eq.trans (mx_iand t124 d124_23) <|
  Eq.trans (mx_iconst t124 d124_24 (v := nI 1) rfl) <|
  (mx_cne t124 d124_25 (tgt := 39) (by decide))
theorem b124_28 {d : Nat} {S : mm_S} {a0 : Nat} {x1 : Int32} {j2 : Int64} {x4 : Int32} {p0 : Int64} (h0 : mm_obj S a0 11 = true) (h1 : (mm_R S a0 0).isSome = true) (h2 : mm_obj S (mm_rg S a0 0) 1 = true) : mm_ex d 124 28 [.ref a0, .int x1, .long j2, .null, .int x4] [.long p0] S =
    mm_ex d 124 5 [.ref a0, .int x1, .long (p0 * ((mm_M S (mm_rg S a0 0) 16).toInt64)), .null, .int (x4 + nI 1)] [] S :=
  Eq.trans (mx_aload_n t124 d124_28 (x := a0) rfl) <|
  Eq.trans (mx_getR t124 d124_29 rfl fl11_17 h0 h1) <|
  Eq.trans (mx_geti t124 d124_32 rfl fl11_258 h2) <|
  Eq.trans (mx_i2l t124 d124_35) <|
  Eq.trans (mx_goto t124 d124_36 (tgt := 50) (by decide)) <|
  Eq.trans (mx_lmul t124 d124_50) <|
  Eq.trans (mx_lstore_n t124 d124_51 (ls' := [.ref a0, .int x1, .long (p0 * ((mm_M S (mm_rg S a0 0) 16).toInt64)), .null, .int x4]) rfl rfl) <|
  Eq.trans (mx_iinc t124 d124_52 (x := x4) (v := nI 1) (ls' := [.ref a0, .int x1, .long (p0 * ((mm_M S (mm_rg S a0 0) 16).toInt64)), .null, .int (x4 + nI 1)]) rfl rfl rfl rfl) <|
  (mx_goto t124 d124_55 (tgt := 5) (by decide))
theorem b124_39 {d : Nat} {S : mm_S} {a0 : Nat} {x1 : Int32} {j2 : Int64} {x4 : Int32} {p0 : Int64} (h0 : mm_obj S a0 11 = true) (h1 : (mm_R S a0 0).isSome = true) (h2 : mm_obj S (mm_rg S a0 0) 1 = true) : mm_ex d 124 39 [.ref a0, .int x1, .long j2, .null, .int x4] [.long p0] S =
    mm_ex d 124 5 [.ref a0, .int x1, .long (p0 * (((nI 10) - (mm_M S (mm_rg S a0 0) 16)).toInt64)), .null, .int (x4 + nI 1)] [] S :=
  Eq.trans (mx_bipush t124 d124_39 (v := nI 10) rfl) <|
  Eq.trans (mx_aload_n t124 d124_41 (x := a0) rfl) <|
  Eq.trans (mx_getR t124 d124_42 rfl fl11_17 h0 h1) <|
  Eq.trans (mx_geti t124 d124_45 rfl fl11_258 h2) <|
  Eq.trans (mx_isub t124 d124_48) <|
  Eq.trans (mx_i2l t124 d124_49) <|
  Eq.trans (mx_lmul t124 d124_50) <|
  Eq.trans (mx_lstore_n t124 d124_51 (ls' := [.ref a0, .int x1, .long (p0 * (((nI 10) - (mm_M S (mm_rg S a0 0) 16)).toInt64)), .null, .int x4]) rfl rfl) <|
  Eq.trans (mx_iinc t124 d124_52 (x := x4) (v := nI 1) (ls' := [.ref a0, .int x1, .long (p0 * (((nI 10) - (mm_M S (mm_rg S a0 0) 16)).toInt64)), .null, .int (x4 + nI 1)]) rfl rfl rfl rfl) <|
  (mx_goto t124 d124_55 (tgt := 5) (by decide))
theorem b124_58 {d : Nat} {S : mm_S} {a0 : Nat} {x1 : Int32} {j2 : Int64} {x4 : Int32} : mm_ex d 124 58 [.ref a0, .int x1, .long j2, .null, .int x4] [] S =
    some (some (.long j2), S) :=
  Eq.trans (mx_lload_n t124 d124_58 (x := j2) rfl) <|
  (mx_lret t124 d124_59 rfl)
theorem e124 {d : Nat} {S : mm_S} {a0 : Nat} {x1 : Int32} : mm_cl d 124 [.ref a0, .int x1] S = mm_ex d 124 0 [.ref a0, .int x1, .null, .null, .null] [] S := mm_cl_eq t124 (Nat.le_of_ble_eq_true rfl) rfl
/-! X11_whoSaysYes -/
theorem dd125_0 : (decode prog_1_method_54_code 0 = .ok (.aload_n 0, 1)) ∧ (decode prog_1_method_54_code 1 = .ok (.getfield 26, 3)) ∧ (decode prog_1_method_54_code 4 = .ok (.aload_n 0, 1)) ∧ (decode prog_1_method_54_code 5 = .ok (.getfield 17, 3)) ∧ (decode prog_1_method_54_code 8 = .ok (.invokevirtual 184, 3)) ∧ (decode prog_1_method_54_code 11 = .ok (.iconst 0, 1)) ∧ (decode prog_1_method_54_code 12 = .ok (.istore_n 2, 1)) ∧ (decode prog_1_method_54_code 13 = .ok (.iconst 0, 1)) ∧ (decode prog_1_method_54_code 14 = .ok (.istore_n 3, 1)) ∧ (decode prog_1_method_54_code 15 = .ok (.iconst 0, 1)) ∧ (decode prog_1_method_54_code 16 = .ok (.istore 4, 2)) ∧ (decode prog_1_method_54_code 18 = .ok (.iload 4, 2)) ∧ (decode prog_1_method_54_code 20 = .ok (.bipush 12, 2)) ∧ (decode prog_1_method_54_code 22 = .ok (.if_icmp .ge 96, 3)) ∧ (decode prog_1_method_54_code 25 = .ok (.aload_n 0, 1)) ∧ (decode prog_1_method_54_code 26 = .ok (.getfield 26, 3)) := by decide +kernel
theorem d125_0 : decode prog_1_method_54_code 0 = .ok (.aload_n 0, 1) := dd125_0.1
theorem d125_1 : decode prog_1_method_54_code 1 = .ok (.getfield 26, 3) := dd125_0.2.1
theorem d125_4 : decode prog_1_method_54_code 4 = .ok (.aload_n 0, 1) := dd125_0.2.2.1
theorem d125_5 : decode prog_1_method_54_code 5 = .ok (.getfield 17, 3) := dd125_0.2.2.2.1
theorem d125_8 : decode prog_1_method_54_code 8 = .ok (.invokevirtual 184, 3) := dd125_0.2.2.2.2.1
theorem d125_11 : decode prog_1_method_54_code 11 = .ok (.iconst 0, 1) := dd125_0.2.2.2.2.2.1
theorem d125_12 : decode prog_1_method_54_code 12 = .ok (.istore_n 2, 1) := dd125_0.2.2.2.2.2.2.1
theorem d125_13 : decode prog_1_method_54_code 13 = .ok (.iconst 0, 1) := dd125_0.2.2.2.2.2.2.2.1
theorem d125_14 : decode prog_1_method_54_code 14 = .ok (.istore_n 3, 1) := dd125_0.2.2.2.2.2.2.2.2.1
theorem d125_15 : decode prog_1_method_54_code 15 = .ok (.iconst 0, 1) := dd125_0.2.2.2.2.2.2.2.2.2.1
theorem d125_16 : decode prog_1_method_54_code 16 = .ok (.istore 4, 2) := dd125_0.2.2.2.2.2.2.2.2.2.2.1
theorem d125_18 : decode prog_1_method_54_code 18 = .ok (.iload 4, 2) := dd125_0.2.2.2.2.2.2.2.2.2.2.2.1
theorem d125_20 : decode prog_1_method_54_code 20 = .ok (.bipush 12, 2) := dd125_0.2.2.2.2.2.2.2.2.2.2.2.2.1
theorem d125_22 : decode prog_1_method_54_code 22 = .ok (.if_icmp .ge 96, 3) := dd125_0.2.2.2.2.2.2.2.2.2.2.2.2.2.1
theorem d125_25 : decode prog_1_method_54_code 25 = .ok (.aload_n 0, 1) := dd125_0.2.2.2.2.2.2.2.2.2.2.2.2.2.2.1
theorem d125_26 : decode prog_1_method_54_code 26 = .ok (.getfield 26, 3) := dd125_0.2.2.2.2.2.2.2.2.2.2.2.2.2.2.2
theorem dd125_29 : (decode prog_1_method_54_code 29 = .ok (.invokevirtual 195, 3)) ∧ (decode prog_1_method_54_code 32 = .ok (.ifCond .eq 86, 3)) ∧ (decode prog_1_method_54_code 35 = .ok (.aload_n 0, 1)) ∧ (decode prog_1_method_54_code 36 = .ok (.getfield 26, 3)) ∧ (decode prog_1_method_54_code 39 = .ok (.invokevirtual 180, 3)) ∧ (decode prog_1_method_54_code 42 = .ok (.istore 5, 2)) ∧ (decode prog_1_method_54_code 44 = .ok (.aload_n 0, 1)) ∧ (decode prog_1_method_54_code 45 = .ok (.getfield 26, 3)) ∧ (decode prog_1_method_54_code 48 = .ok (.iload 5, 2)) ∧ (decode prog_1_method_54_code 50 = .ok (.invokevirtual 107, 3)) ∧ (decode prog_1_method_54_code 53 = .ok (.aload_n 0, 1)) ∧ (decode prog_1_method_54_code 54 = .ok (.getfield 26, 3)) ∧ (decode prog_1_method_54_code 57 = .ok (.getfield 81, 3)) ∧ (decode prog_1_method_54_code 60 = .ok (.iload 5, 2)) ∧ (decode prog_1_method_54_code 62 = .ok (.aaload, 1)) ∧ (decode prog_1_method_54_code 63 = .ok (.aload_n 0, 1)) := by decide +kernel
theorem d125_29 : decode prog_1_method_54_code 29 = .ok (.invokevirtual 195, 3) := dd125_29.1
theorem d125_32 : decode prog_1_method_54_code 32 = .ok (.ifCond .eq 86, 3) := dd125_29.2.1
theorem d125_35 : decode prog_1_method_54_code 35 = .ok (.aload_n 0, 1) := dd125_29.2.2.1
theorem d125_36 : decode prog_1_method_54_code 36 = .ok (.getfield 26, 3) := dd125_29.2.2.2.1
theorem d125_39 : decode prog_1_method_54_code 39 = .ok (.invokevirtual 180, 3) := dd125_29.2.2.2.2.1
theorem d125_42 : decode prog_1_method_54_code 42 = .ok (.istore 5, 2) := dd125_29.2.2.2.2.2.1
theorem d125_44 : decode prog_1_method_54_code 44 = .ok (.aload_n 0, 1) := dd125_29.2.2.2.2.2.2.1
theorem d125_45 : decode prog_1_method_54_code 45 = .ok (.getfield 26, 3) := dd125_29.2.2.2.2.2.2.2.1
theorem d125_48 : decode prog_1_method_54_code 48 = .ok (.iload 5, 2) := dd125_29.2.2.2.2.2.2.2.2.1
theorem d125_50 : decode prog_1_method_54_code 50 = .ok (.invokevirtual 107, 3) := dd125_29.2.2.2.2.2.2.2.2.2.1
theorem d125_53 : decode prog_1_method_54_code 53 = .ok (.aload_n 0, 1) := dd125_29.2.2.2.2.2.2.2.2.2.2.1
theorem d125_54 : decode prog_1_method_54_code 54 = .ok (.getfield 26, 3) := dd125_29.2.2.2.2.2.2.2.2.2.2.2.1
theorem d125_57 : decode prog_1_method_54_code 57 = .ok (.getfield 81, 3) := dd125_29.2.2.2.2.2.2.2.2.2.2.2.2.1
theorem d125_60 : decode prog_1_method_54_code 60 = .ok (.iload 5, 2) := dd125_29.2.2.2.2.2.2.2.2.2.2.2.2.2.1
theorem d125_62 : decode prog_1_method_54_code 62 = .ok (.aaload, 1) := dd125_29.2.2.2.2.2.2.2.2.2.2.2.2.2.2.1
theorem d125_63 : decode prog_1_method_54_code 63 = .ok (.aload_n 0, 1) := dd125_29.2.2.2.2.2.2.2.2.2.2.2.2.2.2.2
theorem dd125_64 : (decode prog_1_method_54_code 64 = .ok (.getfield 26, 3)) ∧ (decode prog_1_method_54_code 67 = .ok (.invokevirtual 191, 3)) ∧ (decode prog_1_method_54_code 70 = .ok (.istore 6, 2)) ∧ (decode prog_1_method_54_code 72 = .ok (.iload 6, 2)) ∧ (decode prog_1_method_54_code 74 = .ok (.iconst 1, 1)) ∧ (decode prog_1_method_54_code 75 = .ok (.if_icmp .ne 28, 3)) ∧ (decode prog_1_method_54_code 78 = .ok (.iload_n 1, 1)) ∧ (decode prog_1_method_54_code 79 = .ok (.iload_n 2, 1)) ∧ (decode prog_1_method_54_code 80 = .ok (.ishr, 1)) ∧ (decode prog_1_method_54_code 81 = .ok (.iconst 1, 1)) ∧ (decode prog_1_method_54_code 82 = .ok (.iand, 1)) ∧ (decode prog_1_method_54_code 83 = .ok (.iconst 1, 1)) ∧ (decode prog_1_method_54_code 84 = .ok (.if_icmp .ne 9, 3)) ∧ (decode prog_1_method_54_code 87 = .ok (.iconst 2, 1)) ∧ (decode prog_1_method_54_code 88 = .ok (.istore 6, 2)) ∧ (decode prog_1_method_54_code 90 = .ok (.goto 10, 3)) := by decide +kernel
theorem d125_64 : decode prog_1_method_54_code 64 = .ok (.getfield 26, 3) := dd125_64.1
theorem d125_67 : decode prog_1_method_54_code 67 = .ok (.invokevirtual 191, 3) := dd125_64.2.1
theorem d125_70 : decode prog_1_method_54_code 70 = .ok (.istore 6, 2) := dd125_64.2.2.1
theorem d125_72 : decode prog_1_method_54_code 72 = .ok (.iload 6, 2) := dd125_64.2.2.2.1
theorem d125_74 : decode prog_1_method_54_code 74 = .ok (.iconst 1, 1) := dd125_64.2.2.2.2.1
theorem d125_75 : decode prog_1_method_54_code 75 = .ok (.if_icmp .ne 28, 3) := dd125_64.2.2.2.2.2.1
theorem d125_78 : decode prog_1_method_54_code 78 = .ok (.iload_n 1, 1) := dd125_64.2.2.2.2.2.2.1
theorem d125_79 : decode prog_1_method_54_code 79 = .ok (.iload_n 2, 1) := dd125_64.2.2.2.2.2.2.2.1
theorem d125_80 : decode prog_1_method_54_code 80 = .ok (.ishr, 1) := dd125_64.2.2.2.2.2.2.2.2.1
theorem d125_81 : decode prog_1_method_54_code 81 = .ok (.iconst 1, 1) := dd125_64.2.2.2.2.2.2.2.2.2.1
theorem d125_82 : decode prog_1_method_54_code 82 = .ok (.iand, 1) := dd125_64.2.2.2.2.2.2.2.2.2.2.1
theorem d125_83 : decode prog_1_method_54_code 83 = .ok (.iconst 1, 1) := dd125_64.2.2.2.2.2.2.2.2.2.2.2.1
theorem d125_84 : decode prog_1_method_54_code 84 = .ok (.if_icmp .ne 9, 3) := dd125_64.2.2.2.2.2.2.2.2.2.2.2.2.1
theorem d125_87 : decode prog_1_method_54_code 87 = .ok (.iconst 2, 1) := dd125_64.2.2.2.2.2.2.2.2.2.2.2.2.2.1
theorem d125_88 : decode prog_1_method_54_code 88 = .ok (.istore 6, 2) := dd125_64.2.2.2.2.2.2.2.2.2.2.2.2.2.2.1
theorem d125_90 : decode prog_1_method_54_code 90 = .ok (.goto 10, 3) := dd125_64.2.2.2.2.2.2.2.2.2.2.2.2.2.2.2
theorem dd125_93 : (decode prog_1_method_54_code 93 = .ok (.iload_n 3, 1)) ∧ (decode prog_1_method_54_code 94 = .ok (.iconst 1, 1)) ∧ (decode prog_1_method_54_code 95 = .ok (.iload 5, 2)) ∧ (decode prog_1_method_54_code 97 = .ok (.ishl, 1)) ∧ (decode prog_1_method_54_code 98 = .ok (.ior, 1)) ∧ (decode prog_1_method_54_code 99 = .ok (.istore_n 3, 1)) ∧ (decode prog_1_method_54_code 100 = .ok (.iinc 2 1, 3)) ∧ (decode prog_1_method_54_code 103 = .ok (.aload_n 0, 1)) ∧ (decode prog_1_method_54_code 104 = .ok (.getfield 26, 3)) ∧ (decode prog_1_method_54_code 107 = .ok (.iload 6, 2)) ∧ (decode prog_1_method_54_code 109 = .ok (.invokevirtual 348, 3)) ∧ (decode prog_1_method_54_code 112 = .ok (.iinc 4 1, 3)) ∧ (decode prog_1_method_54_code 115 = .ok (.goto (-97), 3)) ∧ (decode prog_1_method_54_code 118 = .ok (.aload_n 0, 1)) ∧ (decode prog_1_method_54_code 119 = .ok (.getfield 26, 3)) ∧ (decode prog_1_method_54_code 122 = .ok (.invokevirtual 195, 3)) := by decide +kernel
theorem d125_93 : decode prog_1_method_54_code 93 = .ok (.iload_n 3, 1) := dd125_93.1
theorem d125_94 : decode prog_1_method_54_code 94 = .ok (.iconst 1, 1) := dd125_93.2.1
theorem d125_95 : decode prog_1_method_54_code 95 = .ok (.iload 5, 2) := dd125_93.2.2.1
theorem d125_97 : decode prog_1_method_54_code 97 = .ok (.ishl, 1) := dd125_93.2.2.2.1
theorem d125_98 : decode prog_1_method_54_code 98 = .ok (.ior, 1) := dd125_93.2.2.2.2.1
theorem d125_99 : decode prog_1_method_54_code 99 = .ok (.istore_n 3, 1) := dd125_93.2.2.2.2.2.1
theorem d125_100 : decode prog_1_method_54_code 100 = .ok (.iinc 2 1, 3) := dd125_93.2.2.2.2.2.2.1
theorem d125_103 : decode prog_1_method_54_code 103 = .ok (.aload_n 0, 1) := dd125_93.2.2.2.2.2.2.2.1
theorem d125_104 : decode prog_1_method_54_code 104 = .ok (.getfield 26, 3) := dd125_93.2.2.2.2.2.2.2.2.1
theorem d125_107 : decode prog_1_method_54_code 107 = .ok (.iload 6, 2) := dd125_93.2.2.2.2.2.2.2.2.2.1
theorem d125_109 : decode prog_1_method_54_code 109 = .ok (.invokevirtual 348, 3) := dd125_93.2.2.2.2.2.2.2.2.2.2.1
theorem d125_112 : decode prog_1_method_54_code 112 = .ok (.iinc 4 1, 3) := dd125_93.2.2.2.2.2.2.2.2.2.2.2.1
theorem d125_115 : decode prog_1_method_54_code 115 = .ok (.goto (-97), 3) := dd125_93.2.2.2.2.2.2.2.2.2.2.2.2.1
theorem d125_118 : decode prog_1_method_54_code 118 = .ok (.aload_n 0, 1) := dd125_93.2.2.2.2.2.2.2.2.2.2.2.2.2.1
theorem d125_119 : decode prog_1_method_54_code 119 = .ok (.getfield 26, 3) := dd125_93.2.2.2.2.2.2.2.2.2.2.2.2.2.2.1
theorem d125_122 : decode prog_1_method_54_code 122 = .ok (.invokevirtual 195, 3) := dd125_93.2.2.2.2.2.2.2.2.2.2.2.2.2.2.2
theorem dd125_125 : (decode prog_1_method_54_code 125 = .ok (.ifCond .eq 7, 3)) ∧ (decode prog_1_method_54_code 128 = .ok (.iconst (-1), 1)) ∧ (decode prog_1_method_54_code 129 = .ok (.goto 4, 3)) ∧ (decode prog_1_method_54_code 132 = .ok (.iload_n 3, 1)) ∧ (decode prog_1_method_54_code 133 = .ok (.ireturn, 1)) := by decide +kernel
theorem d125_125 : decode prog_1_method_54_code 125 = .ok (.ifCond .eq 7, 3) := dd125_125.1
theorem d125_128 : decode prog_1_method_54_code 128 = .ok (.iconst (-1), 1) := dd125_125.2.1
theorem d125_129 : decode prog_1_method_54_code 129 = .ok (.goto 4, 3) := dd125_125.2.2.1
theorem d125_132 : decode prog_1_method_54_code 132 = .ok (.iload_n 3, 1) := dd125_125.2.2.2.1
theorem d125_133 : decode prog_1_method_54_code 133 = .ok (.ireturn, 1) := dd125_125.2.2.2.2
theorem b125_0 {d : Nat} {S : mm_S} {a0 : Nat} {x1 : Int32} (h0 : mm_obj S a0 11 = true) (h1 : (mm_R S a0 2).isSome = true) (h2 : (mm_R S a0 0).isSome = true) (h3 : mm_rk S (mm_rg S a0 2) = 1) : mm_ex (d + 1) 125 0 [.ref a0, .int x1, .null, .null, .null, .null, .null] [] S =
    mm_bd (mm_cl d 7 [.ref (mm_rg S a0 2), .ref (mm_rg S a0 0)] S) (fun v S2 => mm_ex (d + 1) 125 11 [.ref a0, .int x1, .null, .null, .null, .null, .null] (v.toList ++ []) S2) :=
  Eq.trans (mx_aload_n t125 d125_0 (x := a0) rfl) <|
  Eq.trans (mx_getR t125 d125_1 rfl fl11_26 h0 h1) <|
  Eq.trans (mx_aload_n t125 d125_4 (x := a0) rfl) <|
  Eq.trans (mx_getR t125 d125_5 rfl fl11_17 h0 h2) <|
  (mx_virt (st := []) (k := 1) t125 [.ref (mm_rg S a0 0)] d125_8 vt11_184 rfl rfl (Nat.le_of_ble_eq_true rfl) (Nat.le_of_ble_eq_true rfl) h3)
theorem b125_11 {d : Nat} {S : mm_S} {a0 : Nat} {x1 : Int32} : mm_ex d 125 11 [.ref a0, .int x1, .null, .null, .null, .null, .null] [] S =
    mm_ex d 125 18 [.ref a0, .int x1, .int (nI 0), .int (nI 0), .int (nI 0), .null, .null] [] S :=
  Eq.trans (mx_iconst t125 d125_11 (v := nI 0) rfl) <|
  Eq.trans (mx_istore_n t125 d125_12 (ls' := [.ref a0, .int x1, .int (nI 0), .null, .null, .null, .null]) rfl rfl) <|
  Eq.trans (mx_iconst t125 d125_13 (v := nI 0) rfl) <|
  Eq.trans (mx_istore_n t125 d125_14 (ls' := [.ref a0, .int x1, .int (nI 0), .int (nI 0), .null, .null, .null]) rfl rfl) <|
  Eq.trans (mx_iconst t125 d125_15 (v := nI 0) rfl) <|
  (mx_istore t125 d125_16 (ls' := [.ref a0, .int x1, .int (nI 0), .int (nI 0), .int (nI 0), .null, .null]) rfl rfl)
theorem b125_18 {d : Nat} {S : mm_S} {a0 : Nat} {x1 : Int32} {x2 : Int32} {x3 : Int32} {x4 : Int32} {v5 : Value} {v6 : Value} : mm_ex d 125 18 [.ref a0, .int x1, .int x2, .int x3, .int x4, v5, v6] [] S =
    if (nI 12) ≤ x4 then mm_ex d 125 118 [.ref a0, .int x1, .int x2, .int x3, .int x4, v5, v6] [] S else mm_ex d 125 25 [.ref a0, .int x1, .int x2, .int x3, .int x4, v5, v6] [] S :=
  Eq.trans (mx_iload t125 d125_18 (x := x4) rfl) <|
  Eq.trans (mx_bipush t125 d125_20 (v := nI 12) rfl) <|
  (mx_cge t125 d125_22 (tgt := 118) (by decide))
theorem b125_25 {d : Nat} {S : mm_S} {a0 : Nat} {x1 : Int32} {x2 : Int32} {x3 : Int32} {x4 : Int32} {v5 : Value} {v6 : Value} (h0 : mm_obj S a0 11 = true) (h1 : (mm_R S a0 2).isSome = true) (h2 : mm_rk S (mm_rg S a0 2) = 1) : mm_ex (d + 1) 125 25 [.ref a0, .int x1, .int x2, .int x3, .int x4, v5, v6] [] S =
    mm_bd (mm_cl d 20 [.ref (mm_rg S a0 2)] S) (fun v S2 => mm_ex (d + 1) 125 32 [.ref a0, .int x1, .int x2, .int x3, .int x4, v5, v6] (v.toList ++ []) S2) :=
  Eq.trans (mx_aload_n t125 d125_25 (x := a0) rfl) <|
  Eq.trans (mx_getR t125 d125_26 rfl fl11_26 h0 h1) <|
  (mx_virt (st := []) (k := 1) t125 [] d125_29 vt11_195 rfl rfl (Nat.le_of_ble_eq_true rfl) (Nat.le_of_ble_eq_true rfl) h2)
theorem b125_32 {d : Nat} {S : mm_S} {a0 : Nat} {x1 : Int32} {x2 : Int32} {x3 : Int32} {x4 : Int32} {v5 : Value} {v6 : Value} {p0 : Int32} : mm_ex d 125 32 [.ref a0, .int x1, .int x2, .int x3, .int x4, v5, v6] [.int p0] S =
    if p0 = nI 0 then mm_ex d 125 118 [.ref a0, .int x1, .int x2, .int x3, .int x4, v5, v6] [] S else mm_ex d 125 35 [.ref a0, .int x1, .int x2, .int x3, .int x4, v5, v6] [] S :=
  (mx_ieq t125 d125_32 (tgt := 118) (by decide))
theorem b125_35 {d : Nat} {S : mm_S} {a0 : Nat} {x1 : Int32} {x2 : Int32} {x3 : Int32} {x4 : Int32} {v5 : Value} {v6 : Value} (h0 : mm_obj S a0 11 = true) (h1 : (mm_R S a0 2).isSome = true) (h2 : mm_rk S (mm_rg S a0 2) = 1) : mm_ex (d + 1) 125 35 [.ref a0, .int x1, .int x2, .int x3, .int x4, v5, v6] [] S =
    mm_bd (mm_cl d 11 [.ref (mm_rg S a0 2)] S) (fun v S2 => mm_ex (d + 1) 125 42 [.ref a0, .int x1, .int x2, .int x3, .int x4, v5, v6] (v.toList ++ []) S2) :=
  Eq.trans (mx_aload_n t125 d125_35 (x := a0) rfl) <|
  Eq.trans (mx_getR t125 d125_36 rfl fl11_26 h0 h1) <|
  (mx_virt (st := []) (k := 1) t125 [] d125_39 vt11_180 rfl rfl (Nat.le_of_ble_eq_true rfl) (Nat.le_of_ble_eq_true rfl) h2)
theorem b125_42 {d : Nat} {S : mm_S} {a0 : Nat} {x1 : Int32} {x2 : Int32} {x3 : Int32} {x4 : Int32} {v5 : Value} {v6 : Value} {p0 : Int32} (h0 : mm_obj S a0 11 = true) (h1 : (mm_R S a0 2).isSome = true) (h2 : mm_rk S (mm_rg S a0 2) = 1) : mm_ex (d + 1) 125 42 [.ref a0, .int x1, .int x2, .int x3, .int x4, v5, v6] [.int p0] S =
    mm_bd (mm_cl d 19 [.ref (mm_rg S a0 2), .int p0] S) (fun v S2 => mm_ex (d + 1) 125 53 [.ref a0, .int x1, .int x2, .int x3, .int x4, .int p0, v6] (v.toList ++ []) S2) :=
  Eq.trans (mx_istore t125 d125_42 (ls' := [.ref a0, .int x1, .int x2, .int x3, .int x4, .int p0, v6]) rfl rfl) <|
  Eq.trans (mx_aload_n t125 d125_44 (x := a0) rfl) <|
  Eq.trans (mx_getR t125 d125_45 rfl fl11_26 h0 h1) <|
  Eq.trans (mx_iload t125 d125_48 (x := p0) rfl) <|
  (mx_virt (st := []) (k := 1) t125 [.int p0] d125_50 vt11_107 rfl rfl (Nat.le_of_ble_eq_true rfl) (Nat.le_of_ble_eq_true rfl) h2)
theorem b125_53_k0 {d : Nat} {S : mm_S} {a0 : Nat} {x1 : Int32} {x2 : Int32} {x3 : Int32} {x4 : Int32} {x5 : Int32} {v6 : Value} (h0 : mm_obj S a0 11 = true) (h1 : (mm_R S a0 2).isSome = true) (h2 : mm_obj S (mm_rg S a0 2) 1 = true) (h3 : (mm_R S (mm_rg S a0 2) 0).isSome = true) (h4 : mm_inb x5 (mm_N S (mm_rg S (mm_rg S a0 2) 0)) = true) (h5 : (mm_arr S (mm_rg S (mm_rg S a0 2) 0) 16 || mm_arr S (mm_rg S (mm_rg S a0 2) 0) 17 || mm_arr S (mm_rg S (mm_rg S a0 2) 0) 18) = true) (h6 : (mm_R S (mm_rg S (mm_rg S a0 2) 0) (x5).toNatClampNeg).isSome = true) (h7 : mm_rk S (mm_rg S (mm_rg S (mm_rg S a0 2) 0) (x5).toNatClampNeg) = 0) : mm_ex (d + 1) 125 53 [.ref a0, .int x1, .int x2, .int x3, .int x4, .int x5, v6] [] S =
    mm_bd (mm_cl d 2 [.ref (mm_rg S (mm_rg S (mm_rg S a0 2) 0) (x5).toNatClampNeg), .ref (mm_rg S a0 2)] S) (fun v S2 => mm_ex (d + 1) 125 70 [.ref a0, .int x1, .int x2, .int x3, .int x4, .int x5, v6] (v.toList ++ []) S2) :=
  Eq.trans (mx_aload_n t125 d125_53 (x := a0) rfl) <|
  Eq.trans (mx_getR t125 d125_54 rfl fl11_26 h0 h1) <|
  Eq.trans (mx_getR t125 d125_57 rfl fl11_81 h2 h3) <|
  Eq.trans (mx_iload t125 d125_60 (x := x5) rfl) <|
  Eq.trans (mx_qaldR t125 d125_62 h5 h4 h6) <|
  Eq.trans (mx_aload_n t125 d125_63 (x := a0) rfl) <|
  Eq.trans (mx_getR t125 d125_64 rfl fl11_26 h0 h1) <|
  (mx_virt (st := []) (k := 0) t125 [.ref (mm_rg S a0 2)] d125_67 vt11_191 rfl rfl (Nat.le_of_ble_eq_true rfl) (Nat.le_of_ble_eq_true rfl) h7)
theorem b125_53_k2 {d : Nat} {S : mm_S} {a0 : Nat} {x1 : Int32} {x2 : Int32} {x3 : Int32} {x4 : Int32} {x5 : Int32} {v6 : Value} (h0 : mm_obj S a0 11 = true) (h1 : (mm_R S a0 2).isSome = true) (h2 : mm_obj S (mm_rg S a0 2) 1 = true) (h3 : (mm_R S (mm_rg S a0 2) 0).isSome = true) (h4 : mm_inb x5 (mm_N S (mm_rg S (mm_rg S a0 2) 0)) = true) (h5 : (mm_arr S (mm_rg S (mm_rg S a0 2) 0) 16 || mm_arr S (mm_rg S (mm_rg S a0 2) 0) 17 || mm_arr S (mm_rg S (mm_rg S a0 2) 0) 18) = true) (h6 : (mm_R S (mm_rg S (mm_rg S a0 2) 0) (x5).toNatClampNeg).isSome = true) (h7 : mm_rk S (mm_rg S (mm_rg S (mm_rg S a0 2) 0) (x5).toNatClampNeg) = 2) : mm_ex (d + 1) 125 53 [.ref a0, .int x1, .int x2, .int x3, .int x4, .int x5, v6] [] S =
    mm_bd (mm_cl d 26 [.ref (mm_rg S (mm_rg S (mm_rg S a0 2) 0) (x5).toNatClampNeg), .ref (mm_rg S a0 2)] S) (fun v S2 => mm_ex (d + 1) 125 70 [.ref a0, .int x1, .int x2, .int x3, .int x4, .int x5, v6] (v.toList ++ []) S2) :=
  Eq.trans (mx_aload_n t125 d125_53 (x := a0) rfl) <|
  Eq.trans (mx_getR t125 d125_54 rfl fl11_26 h0 h1) <|
  Eq.trans (mx_getR t125 d125_57 rfl fl11_81 h2 h3) <|
  Eq.trans (mx_iload t125 d125_60 (x := x5) rfl) <|
  Eq.trans (mx_qaldR t125 d125_62 h5 h4 h6) <|
  Eq.trans (mx_aload_n t125 d125_63 (x := a0) rfl) <|
  Eq.trans (mx_getR t125 d125_64 rfl fl11_26 h0 h1) <|
  (mx_virt (st := []) (k := 2) t125 [.ref (mm_rg S a0 2)] d125_67 vt11_191 rfl rfl (Nat.le_of_ble_eq_true rfl) (Nat.le_of_ble_eq_true rfl) h7)
theorem b125_53_k3 {d : Nat} {S : mm_S} {a0 : Nat} {x1 : Int32} {x2 : Int32} {x3 : Int32} {x4 : Int32} {x5 : Int32} {v6 : Value} (h0 : mm_obj S a0 11 = true) (h1 : (mm_R S a0 2).isSome = true) (h2 : mm_obj S (mm_rg S a0 2) 1 = true) (h3 : (mm_R S (mm_rg S a0 2) 0).isSome = true) (h4 : mm_inb x5 (mm_N S (mm_rg S (mm_rg S a0 2) 0)) = true) (h5 : (mm_arr S (mm_rg S (mm_rg S a0 2) 0) 16 || mm_arr S (mm_rg S (mm_rg S a0 2) 0) 17 || mm_arr S (mm_rg S (mm_rg S a0 2) 0) 18) = true) (h6 : (mm_R S (mm_rg S (mm_rg S a0 2) 0) (x5).toNatClampNeg).isSome = true) (h7 : mm_rk S (mm_rg S (mm_rg S (mm_rg S a0 2) 0) (x5).toNatClampNeg) = 3) : mm_ex (d + 1) 125 53 [.ref a0, .int x1, .int x2, .int x3, .int x4, .int x5, v6] [] S =
    mm_bd (mm_cl d 29 [.ref (mm_rg S (mm_rg S (mm_rg S a0 2) 0) (x5).toNatClampNeg), .ref (mm_rg S a0 2)] S) (fun v S2 => mm_ex (d + 1) 125 70 [.ref a0, .int x1, .int x2, .int x3, .int x4, .int x5, v6] (v.toList ++ []) S2) :=
  Eq.trans (mx_aload_n t125 d125_53 (x := a0) rfl) <|
  Eq.trans (mx_getR t125 d125_54 rfl fl11_26 h0 h1) <|
  Eq.trans (mx_getR t125 d125_57 rfl fl11_81 h2 h3) <|
  Eq.trans (mx_iload t125 d125_60 (x := x5) rfl) <|
  Eq.trans (mx_qaldR t125 d125_62 h5 h4 h6) <|
  Eq.trans (mx_aload_n t125 d125_63 (x := a0) rfl) <|
  Eq.trans (mx_getR t125 d125_64 rfl fl11_26 h0 h1) <|
  (mx_virt (st := []) (k := 3) t125 [.ref (mm_rg S a0 2)] d125_67 vt11_191 rfl rfl (Nat.le_of_ble_eq_true rfl) (Nat.le_of_ble_eq_true rfl) h7)
theorem b125_53_k4 {d : Nat} {S : mm_S} {a0 : Nat} {x1 : Int32} {x2 : Int32} {x3 : Int32} {x4 : Int32} {x5 : Int32} {v6 : Value} (h0 : mm_obj S a0 11 = true) (h1 : (mm_R S a0 2).isSome = true) (h2 : mm_obj S (mm_rg S a0 2) 1 = true) (h3 : (mm_R S (mm_rg S a0 2) 0).isSome = true) (h4 : mm_inb x5 (mm_N S (mm_rg S (mm_rg S a0 2) 0)) = true) (h5 : (mm_arr S (mm_rg S (mm_rg S a0 2) 0) 16 || mm_arr S (mm_rg S (mm_rg S a0 2) 0) 17 || mm_arr S (mm_rg S (mm_rg S a0 2) 0) 18) = true) (h6 : (mm_R S (mm_rg S (mm_rg S a0 2) 0) (x5).toNatClampNeg).isSome = true) (h7 : mm_rk S (mm_rg S (mm_rg S (mm_rg S a0 2) 0) (x5).toNatClampNeg) = 4) : mm_ex (d + 1) 125 53 [.ref a0, .int x1, .int x2, .int x3, .int x4, .int x5, v6] [] S =
    mm_bd (mm_cl d 32 [.ref (mm_rg S (mm_rg S (mm_rg S a0 2) 0) (x5).toNatClampNeg), .ref (mm_rg S a0 2)] S) (fun v S2 => mm_ex (d + 1) 125 70 [.ref a0, .int x1, .int x2, .int x3, .int x4, .int x5, v6] (v.toList ++ []) S2) :=
  Eq.trans (mx_aload_n t125 d125_53 (x := a0) rfl) <|
  Eq.trans (mx_getR t125 d125_54 rfl fl11_26 h0 h1) <|
  Eq.trans (mx_getR t125 d125_57 rfl fl11_81 h2 h3) <|
  Eq.trans (mx_iload t125 d125_60 (x := x5) rfl) <|
  Eq.trans (mx_qaldR t125 d125_62 h5 h4 h6) <|
  Eq.trans (mx_aload_n t125 d125_63 (x := a0) rfl) <|
  Eq.trans (mx_getR t125 d125_64 rfl fl11_26 h0 h1) <|
  (mx_virt (st := []) (k := 4) t125 [.ref (mm_rg S a0 2)] d125_67 vt11_191 rfl rfl (Nat.le_of_ble_eq_true rfl) (Nat.le_of_ble_eq_true rfl) h7)
theorem b125_53_k7 {d : Nat} {S : mm_S} {a0 : Nat} {x1 : Int32} {x2 : Int32} {x3 : Int32} {x4 : Int32} {x5 : Int32} {v6 : Value} (h0 : mm_obj S a0 11 = true) (h1 : (mm_R S a0 2).isSome = true) (h2 : mm_obj S (mm_rg S a0 2) 1 = true) (h3 : (mm_R S (mm_rg S a0 2) 0).isSome = true) (h4 : mm_inb x5 (mm_N S (mm_rg S (mm_rg S a0 2) 0)) = true) (h5 : (mm_arr S (mm_rg S (mm_rg S a0 2) 0) 16 || mm_arr S (mm_rg S (mm_rg S a0 2) 0) 17 || mm_arr S (mm_rg S (mm_rg S a0 2) 0) 18) = true) (h6 : (mm_R S (mm_rg S (mm_rg S a0 2) 0) (x5).toNatClampNeg).isSome = true) (h7 : mm_rk S (mm_rg S (mm_rg S (mm_rg S a0 2) 0) (x5).toNatClampNeg) = 7) : mm_ex (d + 1) 125 53 [.ref a0, .int x1, .int x2, .int x3, .int x4, .int x5, v6] [] S =
    mm_bd (mm_cl d 56 [.ref (mm_rg S (mm_rg S (mm_rg S a0 2) 0) (x5).toNatClampNeg), .ref (mm_rg S a0 2)] S) (fun v S2 => mm_ex (d + 1) 125 70 [.ref a0, .int x1, .int x2, .int x3, .int x4, .int x5, v6] (v.toList ++ []) S2) :=
  Eq.trans (mx_aload_n t125 d125_53 (x := a0) rfl) <|
  Eq.trans (mx_getR t125 d125_54 rfl fl11_26 h0 h1) <|
  Eq.trans (mx_getR t125 d125_57 rfl fl11_81 h2 h3) <|
  Eq.trans (mx_iload t125 d125_60 (x := x5) rfl) <|
  Eq.trans (mx_qaldR t125 d125_62 h5 h4 h6) <|
  Eq.trans (mx_aload_n t125 d125_63 (x := a0) rfl) <|
  Eq.trans (mx_getR t125 d125_64 rfl fl11_26 h0 h1) <|
  (mx_virt (st := []) (k := 7) t125 [.ref (mm_rg S a0 2)] d125_67 vt11_191 rfl rfl (Nat.le_of_ble_eq_true rfl) (Nat.le_of_ble_eq_true rfl) h7)
theorem b125_53_k9 {d : Nat} {S : mm_S} {a0 : Nat} {x1 : Int32} {x2 : Int32} {x3 : Int32} {x4 : Int32} {x5 : Int32} {v6 : Value} (h0 : mm_obj S a0 11 = true) (h1 : (mm_R S a0 2).isSome = true) (h2 : mm_obj S (mm_rg S a0 2) 1 = true) (h3 : (mm_R S (mm_rg S a0 2) 0).isSome = true) (h4 : mm_inb x5 (mm_N S (mm_rg S (mm_rg S a0 2) 0)) = true) (h5 : (mm_arr S (mm_rg S (mm_rg S a0 2) 0) 16 || mm_arr S (mm_rg S (mm_rg S a0 2) 0) 17 || mm_arr S (mm_rg S (mm_rg S a0 2) 0) 18) = true) (h6 : (mm_R S (mm_rg S (mm_rg S a0 2) 0) (x5).toNatClampNeg).isSome = true) (h7 : mm_rk S (mm_rg S (mm_rg S (mm_rg S a0 2) 0) (x5).toNatClampNeg) = 9) : mm_ex (d + 1) 125 53 [.ref a0, .int x1, .int x2, .int x3, .int x4, .int x5, v6] [] S =
    mm_bd (mm_cl d 66 [.ref (mm_rg S (mm_rg S (mm_rg S a0 2) 0) (x5).toNatClampNeg), .ref (mm_rg S a0 2)] S) (fun v S2 => mm_ex (d + 1) 125 70 [.ref a0, .int x1, .int x2, .int x3, .int x4, .int x5, v6] (v.toList ++ []) S2) :=
  Eq.trans (mx_aload_n t125 d125_53 (x := a0) rfl) <|
  Eq.trans (mx_getR t125 d125_54 rfl fl11_26 h0 h1) <|
  Eq.trans (mx_getR t125 d125_57 rfl fl11_81 h2 h3) <|
  Eq.trans (mx_iload t125 d125_60 (x := x5) rfl) <|
  Eq.trans (mx_qaldR t125 d125_62 h5 h4 h6) <|
  Eq.trans (mx_aload_n t125 d125_63 (x := a0) rfl) <|
  Eq.trans (mx_getR t125 d125_64 rfl fl11_26 h0 h1) <|
  (mx_virt (st := []) (k := 9) t125 [.ref (mm_rg S a0 2)] d125_67 vt11_191 rfl rfl (Nat.le_of_ble_eq_true rfl) (Nat.le_of_ble_eq_true rfl) h7)
theorem b125_53_k10 {d : Nat} {S : mm_S} {a0 : Nat} {x1 : Int32} {x2 : Int32} {x3 : Int32} {x4 : Int32} {x5 : Int32} {v6 : Value} (h0 : mm_obj S a0 11 = true) (h1 : (mm_R S a0 2).isSome = true) (h2 : mm_obj S (mm_rg S a0 2) 1 = true) (h3 : (mm_R S (mm_rg S a0 2) 0).isSome = true) (h4 : mm_inb x5 (mm_N S (mm_rg S (mm_rg S a0 2) 0)) = true) (h5 : (mm_arr S (mm_rg S (mm_rg S a0 2) 0) 16 || mm_arr S (mm_rg S (mm_rg S a0 2) 0) 17 || mm_arr S (mm_rg S (mm_rg S a0 2) 0) 18) = true) (h6 : (mm_R S (mm_rg S (mm_rg S a0 2) 0) (x5).toNatClampNeg).isSome = true) (h7 : mm_rk S (mm_rg S (mm_rg S (mm_rg S a0 2) 0) (x5).toNatClampNeg) = 10) : mm_ex (d + 1) 125 53 [.ref a0, .int x1, .int x2, .int x3, .int x4, .int x5, v6] [] S =
    mm_bd (mm_cl d 70 [.ref (mm_rg S (mm_rg S (mm_rg S a0 2) 0) (x5).toNatClampNeg), .ref (mm_rg S a0 2)] S) (fun v S2 => mm_ex (d + 1) 125 70 [.ref a0, .int x1, .int x2, .int x3, .int x4, .int x5, v6] (v.toList ++ []) S2) :=
  Eq.trans (mx_aload_n t125 d125_53 (x := a0) rfl) <|
  Eq.trans (mx_getR t125 d125_54 rfl fl11_26 h0 h1) <|
  Eq.trans (mx_getR t125 d125_57 rfl fl11_81 h2 h3) <|
  Eq.trans (mx_iload t125 d125_60 (x := x5) rfl) <|
  Eq.trans (mx_qaldR t125 d125_62 h5 h4 h6) <|
  Eq.trans (mx_aload_n t125 d125_63 (x := a0) rfl) <|
  Eq.trans (mx_getR t125 d125_64 rfl fl11_26 h0 h1) <|
  (mx_virt (st := []) (k := 10) t125 [.ref (mm_rg S a0 2)] d125_67 vt11_191 rfl rfl (Nat.le_of_ble_eq_true rfl) (Nat.le_of_ble_eq_true rfl) h7)
theorem b125_70 {d : Nat} {S : mm_S} {a0 : Nat} {x1 : Int32} {x2 : Int32} {x3 : Int32} {x4 : Int32} {x5 : Int32} {v6 : Value} {p0 : Int32} : mm_ex d 125 70 [.ref a0, .int x1, .int x2, .int x3, .int x4, .int x5, v6] [.int p0] S =
    if p0 = (nI 1) then mm_ex d 125 78 [.ref a0, .int x1, .int x2, .int x3, .int x4, .int x5, .int p0] [] S else mm_ex d 125 103 [.ref a0, .int x1, .int x2, .int x3, .int x4, .int x5, .int p0] [] S :=
  Eq.trans (mx_istore t125 d125_70 (ls' := [.ref a0, .int x1, .int x2, .int x3, .int x4, .int x5, .int p0]) rfl rfl) <|
  Eq.trans (mx_iload t125 d125_72 (x := p0) rfl) <|
  Eq.trans (mx_iconst t125 d125_74 (v := nI 1) rfl) <|
  (mx_cne t125 d125_75 (tgt := 103) (by decide))
theorem b125_78 {d : Nat} {S : mm_S} {a0 : Nat} {x1 : Int32} {x2 : Int32} {x3 : Int32} {x4 : Int32} {x5 : Int32} {x6 : Int32} : mm_ex d 125 78 [.ref a0, .int x1, .int x2, .int x3, .int x4, .int x5, .int x6] [] S =
    if ((x1 >>> (x2 &&& 31)) &&& (nI 1)) = (nI 1) then mm_ex d 125 87 [.ref a0, .int x1, .int x2, .int x3, .int x4, .int x5, .int x6] [] S else mm_ex d 125 93 [.ref a0, .int x1, .int x2, .int x3, .int x4, .int x5, .int x6] [] S :=
  Eq.trans (mx_iload_n t125 d125_78 (x := x1) rfl) <|
  Eq.trans (mx_iload_n t125 d125_79 (x := x2) rfl) <|
  Eq.trans (mx_ishr t125 d125_80) <|
  Eq.trans (mx_iconst t125 d125_81 (v := nI 1) rfl) <|
  Eq.trans (mx_iand t125 d125_82) <|
  Eq.trans (mx_iconst t125 d125_83 (v := nI 1) rfl) <|
  (mx_cne t125 d125_84 (tgt := 93) (by decide))
theorem b125_87 {d : Nat} {S : mm_S} {a0 : Nat} {x1 : Int32} {x2 : Int32} {x3 : Int32} {x4 : Int32} {x5 : Int32} {x6 : Int32} (h0 : mm_obj S a0 11 = true) (h1 : (mm_R S a0 2).isSome = true) (h2 : mm_rk S (mm_rg S a0 2) = 1) : mm_ex (d + 1) 125 87 [.ref a0, .int x1, .int x2, .int x3, .int x4, .int x5, .int x6] [] S =
    mm_bd (mm_cl d 22 [.ref (mm_rg S a0 2), .int (nI 2)] S) (fun v S2 => mm_ex (d + 1) 125 112 [.ref a0, .int x1, .int (x2 + nI 1), .int x3, .int x4, .int x5, .int (nI 2)] (v.toList ++ []) S2) :=
  Eq.trans (mx_iconst t125 d125_87 (v := nI 2) rfl) <|
  Eq.trans (mx_istore t125 d125_88 (ls' := [.ref a0, .int x1, .int x2, .int x3, .int x4, .int x5, .int (nI 2)]) rfl rfl) <|
  Eq.trans (mx_goto t125 d125_90 (tgt := 100) (by decide)) <|
  Eq.trans (mx_iinc t125 d125_100 (x := x2) (v := nI 1) (ls' := [.ref a0, .int x1, .int (x2 + nI 1), .int x3, .int x4, .int x5, .int (nI 2)]) rfl rfl rfl rfl) <|
  Eq.trans (mx_aload_n t125 d125_103 (x := a0) rfl) <|
  Eq.trans (mx_getR t125 d125_104 rfl fl11_26 h0 h1) <|
  Eq.trans (mx_iload t125 d125_107 (x := nI 2) rfl) <|
  (mx_virt (st := []) (k := 1) t125 [.int (nI 2)] d125_109 vt11_348 rfl rfl (Nat.le_of_ble_eq_true rfl) (Nat.le_of_ble_eq_true rfl) h2)
theorem b125_93 {d : Nat} {S : mm_S} {a0 : Nat} {x1 : Int32} {x2 : Int32} {x3 : Int32} {x4 : Int32} {x5 : Int32} {x6 : Int32} (h0 : mm_obj S a0 11 = true) (h1 : (mm_R S a0 2).isSome = true) (h2 : mm_rk S (mm_rg S a0 2) = 1) : mm_ex (d + 1) 125 93 [.ref a0, .int x1, .int x2, .int x3, .int x4, .int x5, .int x6] [] S =
    mm_bd (mm_cl d 22 [.ref (mm_rg S a0 2), .int x6] S) (fun v S2 => mm_ex (d + 1) 125 112 [.ref a0, .int x1, .int (x2 + nI 1), .int (x3 ||| ((nI 1) <<< (x5 &&& 31))), .int x4, .int x5, .int x6] (v.toList ++ []) S2) :=
  Eq.trans (mx_iload_n t125 d125_93 (x := x3) rfl) <|
  Eq.trans (mx_iconst t125 d125_94 (v := nI 1) rfl) <|
  Eq.trans (mx_iload t125 d125_95 (x := x5) rfl) <|
  Eq.trans (mx_ishl t125 d125_97) <|
  Eq.trans (mx_ior t125 d125_98) <|
  Eq.trans (mx_istore_n t125 d125_99 (ls' := [.ref a0, .int x1, .int x2, .int (x3 ||| ((nI 1) <<< (x5 &&& 31))), .int x4, .int x5, .int x6]) rfl rfl) <|
  Eq.trans (mx_iinc t125 d125_100 (x := x2) (v := nI 1) (ls' := [.ref a0, .int x1, .int (x2 + nI 1), .int (x3 ||| ((nI 1) <<< (x5 &&& 31))), .int x4, .int x5, .int x6]) rfl rfl rfl rfl) <|
  Eq.trans (mx_aload_n t125 d125_103 (x := a0) rfl) <|
  Eq.trans (mx_getR t125 d125_104 rfl fl11_26 h0 h1) <|
  Eq.trans (mx_iload t125 d125_107 (x := x6) rfl) <|
  (mx_virt (st := []) (k := 1) t125 [.int x6] d125_109 vt11_348 rfl rfl (Nat.le_of_ble_eq_true rfl) (Nat.le_of_ble_eq_true rfl) h2)
theorem b125_103 {d : Nat} {S : mm_S} {a0 : Nat} {x1 : Int32} {x2 : Int32} {x3 : Int32} {x4 : Int32} {x5 : Int32} {x6 : Int32} (h0 : mm_obj S a0 11 = true) (h1 : (mm_R S a0 2).isSome = true) (h2 : mm_rk S (mm_rg S a0 2) = 1) : mm_ex (d + 1) 125 103 [.ref a0, .int x1, .int x2, .int x3, .int x4, .int x5, .int x6] [] S =
    mm_bd (mm_cl d 22 [.ref (mm_rg S a0 2), .int x6] S) (fun v S2 => mm_ex (d + 1) 125 112 [.ref a0, .int x1, .int x2, .int x3, .int x4, .int x5, .int x6] (v.toList ++ []) S2) :=
  Eq.trans (mx_aload_n t125 d125_103 (x := a0) rfl) <|
  Eq.trans (mx_getR t125 d125_104 rfl fl11_26 h0 h1) <|
  Eq.trans (mx_iload t125 d125_107 (x := x6) rfl) <|
  (mx_virt (st := []) (k := 1) t125 [.int x6] d125_109 vt11_348 rfl rfl (Nat.le_of_ble_eq_true rfl) (Nat.le_of_ble_eq_true rfl) h2)
theorem b125_112 {d : Nat} {S : mm_S} {a0 : Nat} {x1 : Int32} {x2 : Int32} {x3 : Int32} {x4 : Int32} {x5 : Int32} {x6 : Int32} : mm_ex d 125 112 [.ref a0, .int x1, .int x2, .int x3, .int x4, .int x5, .int x6] [] S =
    mm_ex d 125 18 [.ref a0, .int x1, .int x2, .int x3, .int (x4 + nI 1), .int x5, .int x6] [] S :=
  Eq.trans (mx_iinc t125 d125_112 (x := x4) (v := nI 1) (ls' := [.ref a0, .int x1, .int x2, .int x3, .int (x4 + nI 1), .int x5, .int x6]) rfl rfl rfl rfl) <|
  (mx_goto t125 d125_115 (tgt := 18) (by decide))
theorem b125_118 {d : Nat} {S : mm_S} {a0 : Nat} {x1 : Int32} {x2 : Int32} {x3 : Int32} {x4 : Int32} {v5 : Value} {v6 : Value} (h0 : mm_obj S a0 11 = true) (h1 : (mm_R S a0 2).isSome = true) (h2 : mm_rk S (mm_rg S a0 2) = 1) : mm_ex (d + 1) 125 118 [.ref a0, .int x1, .int x2, .int x3, .int x4, v5, v6] [] S =
    mm_bd (mm_cl d 20 [.ref (mm_rg S a0 2)] S) (fun v S2 => mm_ex (d + 1) 125 125 [.ref a0, .int x1, .int x2, .int x3, .int x4, v5, v6] (v.toList ++ []) S2) :=
  Eq.trans (mx_aload_n t125 d125_118 (x := a0) rfl) <|
  Eq.trans (mx_getR t125 d125_119 rfl fl11_26 h0 h1) <|
  (mx_virt (st := []) (k := 1) t125 [] d125_122 vt11_195 rfl rfl (Nat.le_of_ble_eq_true rfl) (Nat.le_of_ble_eq_true rfl) h2)
theorem b125_125 {d : Nat} {S : mm_S} {a0 : Nat} {x1 : Int32} {x2 : Int32} {x3 : Int32} {x4 : Int32} {v5 : Value} {v6 : Value} {p0 : Int32} : mm_ex d 125 125 [.ref a0, .int x1, .int x2, .int x3, .int x4, v5, v6] [.int p0] S =
    if p0 = nI 0 then mm_ex d 125 132 [.ref a0, .int x1, .int x2, .int x3, .int x4, v5, v6] [] S else mm_ex d 125 128 [.ref a0, .int x1, .int x2, .int x3, .int x4, v5, v6] [] S :=
  (mx_ieq t125 d125_125 (tgt := 132) (by decide))
theorem b125_128 {d : Nat} {S : mm_S} {a0 : Nat} {x1 : Int32} {x2 : Int32} {x3 : Int32} {x4 : Int32} {v5 : Value} {v6 : Value} : mm_ex d 125 128 [.ref a0, .int x1, .int x2, .int x3, .int x4, v5, v6] [] S =
    some (some (.int (-1)), S) :=
  Eq.trans (mx_iconst t125 d125_128 (v := -1) rfl) <|
  Eq.trans (mx_goto t125 d125_129 (tgt := 133) (by decide)) <|
  (mx_iret t125 d125_133 (ty := .int) rfl rfl (fun h => nomatch h))
theorem b125_132 {d : Nat} {S : mm_S} {a0 : Nat} {x1 : Int32} {x2 : Int32} {x3 : Int32} {x4 : Int32} {v5 : Value} {v6 : Value} : mm_ex d 125 132 [.ref a0, .int x1, .int x2, .int x3, .int x4, v5, v6] [] S =
    some (some (.int x3), S) :=
  Eq.trans (mx_iload_n t125 d125_132 (x := x3) rfl) <|
  (mx_iret t125 d125_133 (ty := .int) rfl rfl (fun h => nomatch h))
theorem e125 {d : Nat} {S : mm_S} {a0 : Nat} {x1 : Int32} : mm_cl d 125 [.ref a0, .int x1] S = mm_ex d 125 0 [.ref a0, .int x1, .null, .null, .null, .null, .null] [] S := mm_cl_eq t125 (Nat.le_of_ble_eq_true rfl) rfl
/-! X11_lowestTerms -/
theorem dd126_0 : (decode prog_1_method_55_code 0 = .ok (.lload_n 0, 1)) ∧ (decode prog_1_method_55_code 1 = .ok (.lstore 5, 2)) ∧ (decode prog_1_method_55_code 3 = .ok (.lload_n 2, 1)) ∧ (decode prog_1_method_55_code 4 = .ok (.lstore 7, 2)) ∧ (decode prog_1_method_55_code 6 = .ok (.iconst 0, 1)) ∧ (decode prog_1_method_55_code 7 = .ok (.istore 9, 2)) ∧ (decode prog_1_method_55_code 9 = .ok (.iload 9, 2)) ∧ (decode prog_1_method_55_code 11 = .ok (.bipush 100, 2)) ∧ (decode prog_1_method_55_code 13 = .ok (.if_icmp .ge 31, 3)) ∧ (decode prog_1_method_55_code 16 = .ok (.lload 7, 2)) ∧ (decode prog_1_method_55_code 18 = .ok (.lconst 0, 1)) ∧ (decode prog_1_method_55_code 19 = .ok (.lcmp, 1)) ∧ (decode prog_1_method_55_code 20 = .ok (.ifCond .le 24, 3)) ∧ (decode prog_1_method_55_code 23 = .ok (.lload 5, 2)) ∧ (decode prog_1_method_55_code 25 = .ok (.lload 7, 2)) ∧ (decode prog_1_method_55_code 27 = .ok (.lrem, 1)) := by decide +kernel
theorem d126_0 : decode prog_1_method_55_code 0 = .ok (.lload_n 0, 1) := dd126_0.1
theorem d126_1 : decode prog_1_method_55_code 1 = .ok (.lstore 5, 2) := dd126_0.2.1
theorem d126_3 : decode prog_1_method_55_code 3 = .ok (.lload_n 2, 1) := dd126_0.2.2.1
theorem d126_4 : decode prog_1_method_55_code 4 = .ok (.lstore 7, 2) := dd126_0.2.2.2.1
theorem d126_6 : decode prog_1_method_55_code 6 = .ok (.iconst 0, 1) := dd126_0.2.2.2.2.1
theorem d126_7 : decode prog_1_method_55_code 7 = .ok (.istore 9, 2) := dd126_0.2.2.2.2.2.1
theorem d126_9 : decode prog_1_method_55_code 9 = .ok (.iload 9, 2) := dd126_0.2.2.2.2.2.2.1
theorem d126_11 : decode prog_1_method_55_code 11 = .ok (.bipush 100, 2) := dd126_0.2.2.2.2.2.2.2.1
theorem d126_13 : decode prog_1_method_55_code 13 = .ok (.if_icmp .ge 31, 3) := dd126_0.2.2.2.2.2.2.2.2.1
theorem d126_16 : decode prog_1_method_55_code 16 = .ok (.lload 7, 2) := dd126_0.2.2.2.2.2.2.2.2.2.1
theorem d126_18 : decode prog_1_method_55_code 18 = .ok (.lconst 0, 1) := dd126_0.2.2.2.2.2.2.2.2.2.2.1
theorem d126_19 : decode prog_1_method_55_code 19 = .ok (.lcmp, 1) := dd126_0.2.2.2.2.2.2.2.2.2.2.2.1
theorem d126_20 : decode prog_1_method_55_code 20 = .ok (.ifCond .le 24, 3) := dd126_0.2.2.2.2.2.2.2.2.2.2.2.2.1
theorem d126_23 : decode prog_1_method_55_code 23 = .ok (.lload 5, 2) := dd126_0.2.2.2.2.2.2.2.2.2.2.2.2.2.1
theorem d126_25 : decode prog_1_method_55_code 25 = .ok (.lload 7, 2) := dd126_0.2.2.2.2.2.2.2.2.2.2.2.2.2.2.1
theorem d126_27 : decode prog_1_method_55_code 27 = .ok (.lrem, 1) := dd126_0.2.2.2.2.2.2.2.2.2.2.2.2.2.2.2
theorem dd126_28 : (decode prog_1_method_55_code 28 = .ok (.lstore 10, 2)) ∧ (decode prog_1_method_55_code 30 = .ok (.lload 7, 2)) ∧ (decode prog_1_method_55_code 32 = .ok (.lstore 5, 2)) ∧ (decode prog_1_method_55_code 34 = .ok (.lload 10, 2)) ∧ (decode prog_1_method_55_code 36 = .ok (.lstore 7, 2)) ∧ (decode prog_1_method_55_code 38 = .ok (.iinc 9 1, 3)) ∧ (decode prog_1_method_55_code 41 = .ok (.goto (-32), 3)) ∧ (decode prog_1_method_55_code 44 = .ok (.lload 5, 2)) ∧ (decode prog_1_method_55_code 46 = .ok (.lconst 0, 1)) ∧ (decode prog_1_method_55_code 47 = .ok (.lcmp, 1)) ∧ (decode prog_1_method_55_code 48 = .ok (.ifCond .gt 7, 3)) ∧ (decode prog_1_method_55_code 51 = .ok (.ldc2_w 224, 3)) ∧ (decode prog_1_method_55_code 54 = .ok (.lreturn, 1)) ∧ (decode prog_1_method_55_code 55 = .ok (.iload 4, 2)) ∧ (decode prog_1_method_55_code 57 = .ok (.ifCond .ne 10, 3)) ∧ (decode prog_1_method_55_code 60 = .ok (.lload_n 0, 1)) := by decide +kernel
theorem d126_28 : decode prog_1_method_55_code 28 = .ok (.lstore 10, 2) := dd126_28.1
theorem d126_30 : decode prog_1_method_55_code 30 = .ok (.lload 7, 2) := dd126_28.2.1
theorem d126_32 : decode prog_1_method_55_code 32 = .ok (.lstore 5, 2) := dd126_28.2.2.1
theorem d126_34 : decode prog_1_method_55_code 34 = .ok (.lload 10, 2) := dd126_28.2.2.2.1
theorem d126_36 : decode prog_1_method_55_code 36 = .ok (.lstore 7, 2) := dd126_28.2.2.2.2.1
theorem d126_38 : decode prog_1_method_55_code 38 = .ok (.iinc 9 1, 3) := dd126_28.2.2.2.2.2.1
theorem d126_41 : decode prog_1_method_55_code 41 = .ok (.goto (-32), 3) := dd126_28.2.2.2.2.2.2.1
theorem d126_44 : decode prog_1_method_55_code 44 = .ok (.lload 5, 2) := dd126_28.2.2.2.2.2.2.2.1
theorem d126_46 : decode prog_1_method_55_code 46 = .ok (.lconst 0, 1) := dd126_28.2.2.2.2.2.2.2.2.1
theorem d126_47 : decode prog_1_method_55_code 47 = .ok (.lcmp, 1) := dd126_28.2.2.2.2.2.2.2.2.2.1
theorem d126_48 : decode prog_1_method_55_code 48 = .ok (.ifCond .gt 7, 3) := dd126_28.2.2.2.2.2.2.2.2.2.2.1
theorem d126_51 : decode prog_1_method_55_code 51 = .ok (.ldc2_w 224, 3) := dd126_28.2.2.2.2.2.2.2.2.2.2.2.1
theorem d126_54 : decode prog_1_method_55_code 54 = .ok (.lreturn, 1) := dd126_28.2.2.2.2.2.2.2.2.2.2.2.2.1
theorem d126_55 : decode prog_1_method_55_code 55 = .ok (.iload 4, 2) := dd126_28.2.2.2.2.2.2.2.2.2.2.2.2.2.1
theorem d126_57 : decode prog_1_method_55_code 57 = .ok (.ifCond .ne 10, 3) := dd126_28.2.2.2.2.2.2.2.2.2.2.2.2.2.2.1
theorem d126_60 : decode prog_1_method_55_code 60 = .ok (.lload_n 0, 1) := dd126_28.2.2.2.2.2.2.2.2.2.2.2.2.2.2.2
theorem dd126_61 : (decode prog_1_method_55_code 61 = .ok (.lload 5, 2)) ∧ (decode prog_1_method_55_code 63 = .ok (.ldiv, 1)) ∧ (decode prog_1_method_55_code 64 = .ok (.goto 7, 3)) ∧ (decode prog_1_method_55_code 67 = .ok (.lload_n 2, 1)) ∧ (decode prog_1_method_55_code 68 = .ok (.lload 5, 2)) ∧ (decode prog_1_method_55_code 70 = .ok (.ldiv, 1)) ∧ (decode prog_1_method_55_code 71 = .ok (.lreturn, 1)) := by decide +kernel
theorem d126_61 : decode prog_1_method_55_code 61 = .ok (.lload 5, 2) := dd126_61.1
theorem d126_63 : decode prog_1_method_55_code 63 = .ok (.ldiv, 1) := dd126_61.2.1
theorem d126_64 : decode prog_1_method_55_code 64 = .ok (.goto 7, 3) := dd126_61.2.2.1
theorem d126_67 : decode prog_1_method_55_code 67 = .ok (.lload_n 2, 1) := dd126_61.2.2.2.1
theorem d126_68 : decode prog_1_method_55_code 68 = .ok (.lload 5, 2) := dd126_61.2.2.2.2.1
theorem d126_70 : decode prog_1_method_55_code 70 = .ok (.ldiv, 1) := dd126_61.2.2.2.2.2.1
theorem d126_71 : decode prog_1_method_55_code 71 = .ok (.lreturn, 1) := dd126_61.2.2.2.2.2.2
theorem b126_0 {d : Nat} {S : mm_S} {j0 : Int64} {j2 : Int64} {x4 : Int32} : mm_ex d 126 0 [.long j0, .null, .long j2, .null, .int x4, .null, .null, .null, .null, .null, .null, .null] [] S =
    mm_ex d 126 9 [.long j0, .null, .long j2, .null, .int x4, .long j0, .null, .long j2, .null, .int (nI 0), .null, .null] [] S :=
  Eq.trans (mx_lload_n t126 d126_0 (x := j0) rfl) <|
  Eq.trans (mx_lstore t126 d126_1 (ls' := [.long j0, .null, .long j2, .null, .int x4, .long j0, .null, .null, .null, .null, .null, .null]) rfl rfl) <|
  Eq.trans (mx_lload_n t126 d126_3 (x := j2) rfl) <|
  Eq.trans (mx_lstore t126 d126_4 (ls' := [.long j0, .null, .long j2, .null, .int x4, .long j0, .null, .long j2, .null, .null, .null, .null]) rfl rfl) <|
  Eq.trans (mx_iconst t126 d126_6 (v := nI 0) rfl) <|
  (mx_istore t126 d126_7 (ls' := [.long j0, .null, .long j2, .null, .int x4, .long j0, .null, .long j2, .null, .int (nI 0), .null, .null]) rfl rfl)
theorem b126_9 {d : Nat} {S : mm_S} {j0 : Int64} {j2 : Int64} {x4 : Int32} {j5 : Int64} {j7 : Int64} {x9 : Int32} {v10 : Value} : mm_ex d 126 9 [.long j0, .null, .long j2, .null, .int x4, .long j5, .null, .long j7, .null, .int x9, v10, .null] [] S =
    if (nI 100) ≤ x9 then mm_ex d 126 44 [.long j0, .null, .long j2, .null, .int x4, .long j5, .null, .long j7, .null, .int x9, v10, .null] [] S else mm_ex d 126 16 [.long j0, .null, .long j2, .null, .int x4, .long j5, .null, .long j7, .null, .int x9, v10, .null] [] S :=
  Eq.trans (mx_iload t126 d126_9 (x := x9) rfl) <|
  Eq.trans (mx_bipush t126 d126_11 (v := nI 100) rfl) <|
  (mx_cge t126 d126_13 (tgt := 44) (by decide))
theorem b126_16 {d : Nat} {S : mm_S} {j0 : Int64} {j2 : Int64} {x4 : Int32} {j5 : Int64} {j7 : Int64} {x9 : Int32} {v10 : Value} : mm_ex d 126 16 [.long j0, .null, .long j2, .null, .int x4, .long j5, .null, .long j7, .null, .int x9, v10, .null] [] S =
    if (lg_cmp j7 0) ≤ nI 0 then mm_ex d 126 44 [.long j0, .null, .long j2, .null, .int x4, .long j5, .null, .long j7, .null, .int x9, v10, .null] [] S else mm_ex d 126 23 [.long j0, .null, .long j2, .null, .int x4, .long j5, .null, .long j7, .null, .int x9, v10, .null] [] S :=
  Eq.trans (mx_lload t126 d126_16 (x := j7) rfl) <|
  Eq.trans (mx_lconst t126 d126_18 (v := 0) rfl) <|
  Eq.trans (mx_lcmp t126 d126_19) <|
  (mx_ile t126 d126_20 (tgt := 44) (by decide))
theorem b126_23 {d : Nat} {S : mm_S} {j0 : Int64} {j2 : Int64} {x4 : Int32} {j5 : Int64} {j7 : Int64} {x9 : Int32} {v10 : Value} (h0 : ¬ j7 = 0) : mm_ex d 126 23 [.long j0, .null, .long j2, .null, .int x4, .long j5, .null, .long j7, .null, .int x9, v10, .null] [] S =
    mm_ex d 126 9 [.long j0, .null, .long j2, .null, .int x4, .long j7, .null, .long (j5 - j5 / j7 * j7), .null, .int (x9 + nI 1), .long (j5 - j5 / j7 * j7), .null] [] S :=
  Eq.trans (mx_lload t126 d126_23 (x := j5) rfl) <|
  Eq.trans (mx_lload t126 d126_25 (x := j7) rfl) <|
  Eq.trans (mx_lrem t126 d126_27 h0) <|
  Eq.trans (mx_lstore t126 d126_28 (ls' := [.long j0, .null, .long j2, .null, .int x4, .long j5, .null, .long j7, .null, .int x9, .long (j5 - j5 / j7 * j7), .null]) rfl rfl) <|
  Eq.trans (mx_lload t126 d126_30 (x := j7) rfl) <|
  Eq.trans (mx_lstore t126 d126_32 (ls' := [.long j0, .null, .long j2, .null, .int x4, .long j7, .null, .long j7, .null, .int x9, .long (j5 - j5 / j7 * j7), .null]) rfl rfl) <|
  Eq.trans (mx_lload t126 d126_34 (x := j5 - j5 / j7 * j7) rfl) <|
  Eq.trans (mx_lstore t126 d126_36 (ls' := [.long j0, .null, .long j2, .null, .int x4, .long j7, .null, .long (j5 - j5 / j7 * j7), .null, .int x9, .long (j5 - j5 / j7 * j7), .null]) rfl rfl) <|
  Eq.trans (mx_iinc t126 d126_38 (x := x9) (v := nI 1) (ls' := [.long j0, .null, .long j2, .null, .int x4, .long j7, .null, .long (j5 - j5 / j7 * j7), .null, .int (x9 + nI 1), .long (j5 - j5 / j7 * j7), .null]) rfl rfl rfl rfl) <|
  (mx_goto t126 d126_41 (tgt := 9) (by decide))
theorem b126_44 {d : Nat} {S : mm_S} {j0 : Int64} {j2 : Int64} {x4 : Int32} {j5 : Int64} {j7 : Int64} {x9 : Int32} {v10 : Value} : mm_ex d 126 44 [.long j0, .null, .long j2, .null, .int x4, .long j5, .null, .long j7, .null, .int x9, v10, .null] [] S =
    if nI 0 < (lg_cmp j5 0) then mm_ex d 126 55 [.long j0, .null, .long j2, .null, .int x4, .long j5, .null, .long j7, .null, .int x9, v10, .null] [] S else mm_ex d 126 51 [.long j0, .null, .long j2, .null, .int x4, .long j5, .null, .long j7, .null, .int x9, v10, .null] [] S :=
  Eq.trans (mx_lload t126 d126_44 (x := j5) rfl) <|
  Eq.trans (mx_lconst t126 d126_46 (v := 0) rfl) <|
  Eq.trans (mx_lcmp t126 d126_47) <|
  (mx_igt t126 d126_48 (tgt := 55) (by decide))
theorem b126_51 {d : Nat} {S : mm_S} {j0 : Int64} {j2 : Int64} {x4 : Int32} {j5 : Int64} {j7 : Int64} {x9 : Int32} {v10 : Value} : mm_ex d 126 51 [.long j0, .null, .long j2, .null, .int x4, .long j5, .null, .long j7, .null, .int x9, v10, .null] [] S =
    some (some (.long (-9223372036854775808)), S) :=
  Eq.trans (mx_ldc2_w t126 d126_51 (v := -9223372036854775808) l211_224) <|
  (mx_lret t126 d126_54 rfl)
theorem b126_55 {d : Nat} {S : mm_S} {j0 : Int64} {j2 : Int64} {x4 : Int32} {j5 : Int64} {j7 : Int64} {x9 : Int32} {v10 : Value} : mm_ex d 126 55 [.long j0, .null, .long j2, .null, .int x4, .long j5, .null, .long j7, .null, .int x9, v10, .null] [] S =
    if x4 = nI 0 then mm_ex d 126 60 [.long j0, .null, .long j2, .null, .int x4, .long j5, .null, .long j7, .null, .int x9, v10, .null] [] S else mm_ex d 126 67 [.long j0, .null, .long j2, .null, .int x4, .long j5, .null, .long j7, .null, .int x9, v10, .null] [] S :=
  Eq.trans (mx_iload t126 d126_55 (x := x4) rfl) <|
  (mx_ine t126 d126_57 (tgt := 67) (by decide))
theorem b126_60 {d : Nat} {S : mm_S} {j0 : Int64} {j2 : Int64} {x4 : Int32} {j5 : Int64} {j7 : Int64} {x9 : Int32} {v10 : Value} (h0 : ¬ j5 = 0) : mm_ex d 126 60 [.long j0, .null, .long j2, .null, .int x4, .long j5, .null, .long j7, .null, .int x9, v10, .null] [] S =
    some (some (.long (j0 / j5)), S) :=
  Eq.trans (mx_lload_n t126 d126_60 (x := j0) rfl) <|
  Eq.trans (mx_lload t126 d126_61 (x := j5) rfl) <|
  Eq.trans (mx_ldiv t126 d126_63 h0) <|
  Eq.trans (mx_goto t126 d126_64 (tgt := 71) (by decide)) <|
  (mx_lret t126 d126_71 rfl)
theorem b126_67 {d : Nat} {S : mm_S} {j0 : Int64} {j2 : Int64} {x4 : Int32} {j5 : Int64} {j7 : Int64} {x9 : Int32} {v10 : Value} (h0 : ¬ j5 = 0) : mm_ex d 126 67 [.long j0, .null, .long j2, .null, .int x4, .long j5, .null, .long j7, .null, .int x9, v10, .null] [] S =
    some (some (.long (j2 / j5)), S) :=
  Eq.trans (mx_lload_n t126 d126_67 (x := j2) rfl) <|
  Eq.trans (mx_lload t126 d126_68 (x := j5) rfl) <|
  Eq.trans (mx_ldiv t126 d126_70 h0) <|
  (mx_lret t126 d126_71 rfl)
theorem e126 {d : Nat} {S : mm_S} {j0 : Int64} {j2 : Int64} {x4 : Int32} : mm_cl d 126 [.long j0, .long j2, .int x4] S = mm_ex d 126 0 [.long j0, .null, .long j2, .null, .int x4, .null, .null, .null, .null, .null, .null, .null] [] S := mm_cl_eq t126 (Nat.le_of_ble_eq_true rfl) rfl
