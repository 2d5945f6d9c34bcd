/-! X11_film -/
theorem dd95_0 : (decode prog_1_method_24_code 0 = .ok (.iload_n 1, 1)) ∧ (decode prog_1_method_24_code 1 = .ok (.iconst (-1), 1)) ∧ (decode prog_1_method_24_code 2 = .ok (.if_icmp .eq 15, 3)) ∧ (decode prog_1_method_24_code 5 = .ok (.iload_n 1, 1)) ∧ (decode prog_1_method_24_code 6 = .ok (.iconst 1, 1)) ∧ (decode prog_1_method_24_code 7 = .ok (.if_icmp .lt 8, 3)) ∧ (decode prog_1_method_24_code 10 = .ok (.iload_n 1, 1)) ∧ (decode prog_1_method_24_code 11 = .ok (.iconst 3, 1)) ∧ (decode prog_1_method_24_code 12 = .ok (.if_icmp .le 5, 3)) ∧ (decode prog_1_method_24_code 15 = .ok (.iconst (-1), 1)) ∧ (decode prog_1_method_24_code 16 = .ok (.ireturn, 1)) ∧ (decode prog_1_method_24_code 17 = .ok (.iload_n 1, 1)) ∧ (decode prog_1_method_24_code 18 = .ok (.iconst (-1), 1)) ∧ (decode prog_1_method_24_code 19 = .ok (.if_icmp .ne 13, 3)) ∧ (decode prog_1_method_24_code 22 = .ok (.aload_n 0, 1)) ∧ (decode prog_1_method_24_code 23 = .ok (.getfield 17, 3)) := by decide +kernel
theorem d95_0 : decode prog_1_method_24_code 0 = .ok (.iload_n 1, 1) := dd95_0.1
theorem d95_1 : decode prog_1_method_24_code 1 = .ok (.iconst (-1), 1) := dd95_0.2.1
theorem d95_2 : decode prog_1_method_24_code 2 = .ok (.if_icmp .eq 15, 3) := dd95_0.2.2.1
theorem d95_5 : decode prog_1_method_24_code 5 = .ok (.iload_n 1, 1) := dd95_0.2.2.2.1
theorem d95_6 : decode prog_1_method_24_code 6 = .ok (.iconst 1, 1) := dd95_0.2.2.2.2.1
theorem d95_7 : decode prog_1_method_24_code 7 = .ok (.if_icmp .lt 8, 3) := dd95_0.2.2.2.2.2.1
theorem d95_10 : decode prog_1_method_24_code 10 = .ok (.iload_n 1, 1) := dd95_0.2.2.2.2.2.2.1
theorem d95_11 : decode prog_1_method_24_code 11 = .ok (.iconst 3, 1) := dd95_0.2.2.2.2.2.2.2.1
theorem d95_12 : decode prog_1_method_24_code 12 = .ok (.if_icmp .le 5, 3) := dd95_0.2.2.2.2.2.2.2.2.1
theorem d95_15 : decode prog_1_method_24_code 15 = .ok (.iconst (-1), 1) := dd95_0.2.2.2.2.2.2.2.2.2.1
theorem d95_16 : decode prog_1_method_24_code 16 = .ok (.ireturn, 1) := dd95_0.2.2.2.2.2.2.2.2.2.2.1
theorem d95_17 : decode prog_1_method_24_code 17 = .ok (.iload_n 1, 1) := dd95_0.2.2.2.2.2.2.2.2.2.2.2.1
theorem d95_18 : decode prog_1_method_24_code 18 = .ok (.iconst (-1), 1) := dd95_0.2.2.2.2.2.2.2.2.2.2.2.2.1
theorem d95_19 : decode prog_1_method_24_code 19 = .ok (.if_icmp .ne 13, 3) := dd95_0.2.2.2.2.2.2.2.2.2.2.2.2.2.1
theorem d95_22 : decode prog_1_method_24_code 22 = .ok (.aload_n 0, 1) := dd95_0.2.2.2.2.2.2.2.2.2.2.2.2.2.2.1
theorem d95_23 : decode prog_1_method_24_code 23 = .ok (.getfield 17, 3) := dd95_0.2.2.2.2.2.2.2.2.2.2.2.2.2.2.2
theorem dd95_26 : (decode prog_1_method_24_code 26 = .ok (.iconst 0, 1)) ∧ (decode prog_1_method_24_code 27 = .ok (.putfield 268, 3)) ∧ (decode prog_1_method_24_code 30 = .ok (.iconst 0, 1)) ∧ (decode prog_1_method_24_code 31 = .ok (.ireturn, 1)) ∧ (decode prog_1_method_24_code 32 = .ok (.aload_n 0, 1)) ∧ (decode prog_1_method_24_code 33 = .ok (.getfield 17, 3)) ∧ (decode prog_1_method_24_code 36 = .ok (.getfield 268, 3)) ∧ (decode prog_1_method_24_code 39 = .ok (.bipush 12, 2)) ∧ (decode prog_1_method_24_code 41 = .ok (.if_icmp .lt 6, 3)) ∧ (decode prog_1_method_24_code 44 = .ok (.bipush (-4), 2)) ∧ (decode prog_1_method_24_code 46 = .ok (.ireturn, 1)) ∧ (decode prog_1_method_24_code 47 = .ok (.aload_n 0, 1)) ∧ (decode prog_1_method_24_code 48 = .ok (.getfield 17, 3)) ∧ (decode prog_1_method_24_code 51 = .ok (.getfield 271, 3)) ∧ (decode prog_1_method_24_code 54 = .ok (.aload_n 0, 1)) ∧ (decode prog_1_method_24_code 55 = .ok (.getfield 17, 3)) := by decide +kernel
theorem d95_26 : decode prog_1_method_24_code 26 = .ok (.iconst 0, 1) := dd95_26.1
theorem d95_27 : decode prog_1_method_24_code 27 = .ok (.putfield 268, 3) := dd95_26.2.1
theorem d95_30 : decode prog_1_method_24_code 30 = .ok (.iconst 0, 1) := dd95_26.2.2.1
theorem d95_31 : decode prog_1_method_24_code 31 = .ok (.ireturn, 1) := dd95_26.2.2.2.1
theorem d95_32 : decode prog_1_method_24_code 32 = .ok (.aload_n 0, 1) := dd95_26.2.2.2.2.1
theorem d95_33 : decode prog_1_method_24_code 33 = .ok (.getfield 17, 3) := dd95_26.2.2.2.2.2.1
theorem d95_36 : decode prog_1_method_24_code 36 = .ok (.getfield 268, 3) := dd95_26.2.2.2.2.2.2.1
theorem d95_39 : decode prog_1_method_24_code 39 = .ok (.bipush 12, 2) := dd95_26.2.2.2.2.2.2.2.1
theorem d95_41 : decode prog_1_method_24_code 41 = .ok (.if_icmp .lt 6, 3) := dd95_26.2.2.2.2.2.2.2.2.1
theorem d95_44 : decode prog_1_method_24_code 44 = .ok (.bipush (-4), 2) := dd95_26.2.2.2.2.2.2.2.2.2.1
theorem d95_46 : decode prog_1_method_24_code 46 = .ok (.ireturn, 1) := dd95_26.2.2.2.2.2.2.2.2.2.2.1
theorem d95_47 : decode prog_1_method_24_code 47 = .ok (.aload_n 0, 1) := dd95_26.2.2.2.2.2.2.2.2.2.2.2.1
theorem d95_48 : decode prog_1_method_24_code 48 = .ok (.getfield 17, 3) := dd95_26.2.2.2.2.2.2.2.2.2.2.2.2.1
theorem d95_51 : decode prog_1_method_24_code 51 = .ok (.getfield 271, 3) := dd95_26.2.2.2.2.2.2.2.2.2.2.2.2.2.1
theorem d95_54 : decode prog_1_method_24_code 54 = .ok (.aload_n 0, 1) := dd95_26.2.2.2.2.2.2.2.2.2.2.2.2.2.2.1
theorem d95_55 : decode prog_1_method_24_code 55 = .ok (.getfield 17, 3) := dd95_26.2.2.2.2.2.2.2.2.2.2.2.2.2.2.2
theorem dd95_58 : (decode prog_1_method_24_code 58 = .ok (.getfield 268, 3)) ∧ (decode prog_1_method_24_code 61 = .ok (.iload_n 1, 1)) ∧ (decode prog_1_method_24_code 62 = .ok (.iastore, 1)) ∧ (decode prog_1_method_24_code 63 = .ok (.aload_n 0, 1)) ∧ (decode prog_1_method_24_code 64 = .ok (.getfield 17, 3)) ∧ (decode prog_1_method_24_code 67 = .ok (.dup, 1)) ∧ (decode prog_1_method_24_code 68 = .ok (.getfield 268, 3)) ∧ (decode prog_1_method_24_code 71 = .ok (.iconst 1, 1)) ∧ (decode prog_1_method_24_code 72 = .ok (.iadd, 1)) ∧ (decode prog_1_method_24_code 73 = .ok (.putfield 268, 3)) ∧ (decode prog_1_method_24_code 76 = .ok (.aload_n 0, 1)) ∧ (decode prog_1_method_24_code 77 = .ok (.getfield 17, 3)) ∧ (decode prog_1_method_24_code 80 = .ok (.getfield 268, 3)) ∧ (decode prog_1_method_24_code 83 = .ok (.ireturn, 1)) := by decide +kernel
theorem d95_58 : decode prog_1_method_24_code 58 = .ok (.getfield 268, 3) := dd95_58.1
theorem d95_61 : decode prog_1_method_24_code 61 = .ok (.iload_n 1, 1) := dd95_58.2.1
theorem d95_62 : decode prog_1_method_24_code 62 = .ok (.iastore, 1) := dd95_58.2.2.1
theorem d95_63 : decode prog_1_method_24_code 63 = .ok (.aload_n 0, 1) := dd95_58.2.2.2.1
theorem d95_64 : decode prog_1_method_24_code 64 = .ok (.getfield 17, 3) := dd95_58.2.2.2.2.1
theorem d95_67 : decode prog_1_method_24_code 67 = .ok (.dup, 1) := dd95_58.2.2.2.2.2.1
theorem d95_68 : decode prog_1_method_24_code 68 = .ok (.getfield 268, 3) := dd95_58.2.2.2.2.2.2.1
theorem d95_71 : decode prog_1_method_24_code 71 = .ok (.iconst 1, 1) := dd95_58.2.2.2.2.2.2.2.1
theorem d95_72 : decode prog_1_method_24_code 72 = .ok (.iadd, 1) := dd95_58.2.2.2.2.2.2.2.2.1
theorem d95_73 : decode prog_1_method_24_code 73 = .ok (.putfield 268, 3) := dd95_58.2.2.2.2.2.2.2.2.2.1
theorem d95_76 : decode prog_1_method_24_code 76 = .ok (.aload_n 0, 1) := dd95_58.2.2.2.2.2.2.2.2.2.2.1
theorem d95_77 : decode prog_1_method_24_code 77 = .ok (.getfield 17, 3) := dd95_58.2.2.2.2.2.2.2.2.2.2.2.1
theorem d95_80 : decode prog_1_method_24_code 80 = .ok (.getfield 268, 3) := dd95_58.2.2.2.2.2.2.2.2.2.2.2.2.1
theorem d95_83 : decode prog_1_method_24_code 83 = .ok (.ireturn, 1) := dd95_58.2.2.2.2.2.2.2.2.2.2.2.2.2
theorem b95_0 {d : Nat} {S : mm_S} {a0 : Nat} {x1 : Int32} : mm_ex d 95 0 [.ref a0, .int x1] [] S =
    if x1 = (-1) then mm_ex d 95 17 [.ref a0, .int x1] [] S else mm_ex d 95 5 [.ref a0, .int x1] [] S :=
  Eq.trans (mx_iload_n t95 d95_0 (x := x1) rfl) <|
  Eq.trans (mx_iconst t95 d95_1 (v := -1) rfl) <|
  (mx_ceq t95 d95_2 (tgt := 17) (by decide))
theorem b95_5 {d : Nat} {S : mm_S} {a0 : Nat} {x1 : Int32} : mm_ex d 95 5 [.ref a0, .int x1] [] S =
    if x1 < (nI 1) then mm_ex d 95 15 [.ref a0, .int x1] [] S else mm_ex d 95 10 [.ref a0, .int x1] [] S :=
  Eq.trans (mx_iload_n t95 d95_5 (x := x1) rfl) <|
  Eq.trans (mx_iconst t95 d95_6 (v := nI 1) rfl) <|
  (mx_clt t95 d95_7 (tgt := 15) (by decide))
theorem b95_10 {d : Nat} {S : mm_S} {a0 : Nat} {x1 : Int32} : mm_ex d 95 10 [.ref a0, .int x1] [] S =
    if x1 ≤ (nI 3) then mm_ex d 95 17 [.ref a0, .int x1] [] S else mm_ex d 95 15 [.ref a0, .int x1] [] S :=
  Eq.trans (mx_iload_n t95 d95_10 (x := x1) rfl) <|
  Eq.trans (mx_iconst t95 d95_11 (v := nI 3) rfl) <|
  (mx_cle t95 d95_12 (tgt := 17) (by decide))
theorem b95_15 {d : Nat} {S : mm_S} {a0 : Nat} {x1 : Int32} : mm_ex d 95 15 [.ref a0, .int x1] [] S =
    some (some (.int (-1)), S) :=
  Eq.trans (mx_iconst t95 d95_15 (v := -1) rfl) <|
  (mx_iret t95 d95_16 (ty := .int) rfl rfl (fun h => nomatch h))
theorem b95_17 {d : Nat} {S : mm_S} {a0 : Nat} {x1 : Int32} : mm_ex d 95 17 [.ref a0, .int x1] [] S =
    if x1 = (-1) then mm_ex d 95 22 [.ref a0, .int x1] [] S else mm_ex d 95 32 [.ref a0, .int x1] [] S :=
  Eq.trans (mx_iload_n t95 d95_17 (x := x1) rfl) <|
  Eq.trans (mx_iconst t95 d95_18 (v := -1) rfl) <|
  (mx_cne t95 d95_19 (tgt := 32) (by decide))
theorem b95_22 {d : Nat} {S : mm_S} {a0 : Nat} {x1 : Int32} (h0 : mm_obj S a0 11 = true) (h1 : (mm_R S a0 0).isSome = true) (h2 : mm_obj S (mm_rg S a0 0) 1 = true) : mm_ex d 95 22 [.ref a0, .int x1] [] S =
    some (some (.int (nI 0)), (mm_uM S (mm_rg S a0 0) 17 (nI 0))) :=
  Eq.trans (mx_aload_n t95 d95_22 (x := a0) rfl) <|
  Eq.trans (mx_getR t95 d95_23 rfl fl11_17 h0 h1) <|
  Eq.trans (mx_iconst t95 d95_26 (v := nI 0) rfl) <|
  Eq.trans (mx_puti2 t95 d95_27 fl11_268 rfl h2) <|
  Eq.trans (mx_iconst t95 d95_30 (v := nI 0) rfl) <|
  (mx_iret t95 d95_31 (ty := .int) rfl rfl (fun h => nomatch h))
theorem b95_32 {d : Nat} {S : mm_S} {a0 : Nat} {x1 : Int32} (h0 : mm_obj S a0 11 = true) (h1 : (mm_R S a0 0).isSome = true) (h2 : mm_obj S (mm_rg S a0 0) 1 = true) : mm_ex d 95 32 [.ref a0, .int x1] [] S =
    if (mm_M S (mm_rg S a0 0) 17) < (nI 12) then mm_ex d 95 47 [.ref a0, .int x1] [] S else mm_ex d 95 44 [.ref a0, .int x1] [] S :=
  Eq.trans (mx_aload_n t95 d95_32 (x := a0) rfl) <|
  Eq.trans (mx_getR t95 d95_33 rfl fl11_17 h0 h1) <|
  Eq.trans (mx_geti t95 d95_36 rfl fl11_268 h2) <|
  Eq.trans (mx_bipush t95 d95_39 (v := nI 12) rfl) <|
  (mx_clt t95 d95_41 (tgt := 47) (by decide))
theorem b95_44 {d : Nat} {S : mm_S} {a0 : Nat} {x1 : Int32} : mm_ex d 95 44 [.ref a0, .int x1] [] S =
    some (some (.int (-4)), S) :=
  Eq.trans (mx_bipush t95 d95_44 (v := -4) rfl) <|
  (mx_iret t95 d95_46 (ty := .int) rfl rfl (fun h => nomatch h))
theorem b95_47 {d : Nat} {S : mm_S} {a0 : Nat} {x1 : Int32} (h0 : mm_obj S a0 11 = true) (h1 : (mm_R S a0 0).isSome = true) (h2 : mm_obj S (mm_rg S a0 0) 1 = true) (h3 : (mm_R S (mm_rg S a0 0) 6).isSome = true) (h4 : mm_arr S (mm_rg S (mm_rg S a0 0) 6) 13 = true) (h5 : mm_inb (mm_M S (mm_rg S a0 0) 17) (mm_N S (mm_rg S (mm_rg S a0 0) 6)) = true) : mm_ex d 95 47 [.ref a0, .int x1] [] S =
    mm_ex d 95 68 [.ref a0, .int x1] [.ref (mm_rg S a0 0), .ref (mm_rg S a0 0)] (mm_uM S (mm_rg S (mm_rg S a0 0) 6) (mm_M S (mm_rg S a0 0) 17).toNatClampNeg x1) :=
  Eq.trans (mx_aload_n t95 d95_47 (x := a0) rfl) <|
  Eq.trans (mx_getR t95 d95_48 rfl fl11_17 h0 h1) <|
  Eq.trans (mx_getR t95 d95_51 rfl fl11_271 h2 h3) <|
  Eq.trans (mx_aload_n t95 d95_54 (x := a0) rfl) <|
  Eq.trans (mx_getR t95 d95_55 rfl fl11_17 h0 h1) <|
  Eq.trans (mx_geti t95 d95_58 rfl fl11_268 h2) <|
  Eq.trans (mx_iload_n t95 d95_61 (x := x1) rfl) <|
  Eq.trans (mx_iast2 t95 d95_62 h4 h5) <|
  Eq.trans (mx_aload_n t95 d95_63 (x := a0) rfl) <|
  Eq.trans (mx_getR t95 d95_64 rfl fl11_17 h0 h1) <|
  (mx_dupr t95 d95_67)
theorem b95_68 {d : Nat} {S : mm_S} {a0 : Nat} {x1 : Int32} {p0 : Nat} {p1 : Nat} (h0 : mm_obj S p0 1 = true) (h1 : mm_obj S p1 1 = true) (h2 : mm_obj S a0 11 = true) (h3 : (mm_R S a0 0).isSome = true) : mm_ex d 95 68 [.ref a0, .int x1] [.ref p0, .ref p1] S =
    mm_ex d 95 80 [.ref a0, .int x1] [.ref (mm_rg S a0 0)] (mm_uM S p1 17 ((mm_M S p0 17) + (nI 1))) :=
  Eq.trans (mx_geti t95 d95_68 rfl fl11_268 h0) <|
  Eq.trans (mx_iconst t95 d95_71 (v := nI 1) rfl) <|
  Eq.trans (mx_iadd t95 d95_72) <|
  Eq.trans (mx_puti2 t95 d95_73 fl11_268 rfl h1) <|
  Eq.trans (mx_aload_n t95 d95_76 (x := a0) rfl) <|
  (mx_getR t95 d95_77 rfl fl11_17 h2 h3)
theorem b95_80 {d : Nat} {S : mm_S} {a0 : Nat} {x1 : Int32} {p0 : Nat} (h0 : mm_obj S p0 1 = true) : mm_ex d 95 80 [.ref a0, .int x1] [.ref p0] S =
    some (some (.int (mm_M S p0 17)), S) :=
  Eq.trans (mx_geti t95 d95_80 rfl fl11_268 h0) <|
  (mx_iret t95 d95_83 (ty := .int) rfl rfl (fun h => nomatch h))
theorem e95 {d : Nat} {S : mm_S} {a0 : Nat} {x1 : Int32} : mm_cl d 95 [.ref a0, .int x1] S = mm_ex d 95 0 [.ref a0, .int x1] [] S := mm_cl_eq t95 (Nat.le_of_ble_eq_true rfl) rfl
/-! X11_off -/
theorem dd96_0 : (decode prog_1_method_25_code 0 = .ok (.aload_n 0, 1)) ∧ (decode prog_1_method_25_code 1 = .ok (.getfield 26, 3)) ∧ (decode prog_1_method_25_code 4 = .ok (.aload_n 0, 1)) ∧ (decode prog_1_method_25_code 5 = .ok (.getfield 17, 3)) ∧ (decode prog_1_method_25_code 8 = .ok (.invokevirtual 184, 3)) ∧ (decode prog_1_method_25_code 11 = .ok (.iconst 0, 1)) ∧ (decode prog_1_method_25_code 12 = .ok (.istore_n 1, 1)) ∧ (decode prog_1_method_25_code 13 = .ok (.iload_n 1, 1)) ∧ (decode prog_1_method_25_code 14 = .ok (.aload_n 0, 1)) ∧ (decode prog_1_method_25_code 15 = .ok (.getfield 17, 3)) ∧ (decode prog_1_method_25_code 18 = .ok (.getfield 268, 3)) ∧ (decode prog_1_method_25_code 21 = .ok (.if_icmp .ge 40, 3)) ∧ (decode prog_1_method_25_code 24 = .ok (.aload_n 0, 1)) ∧ (decode prog_1_method_25_code 25 = .ok (.getfield 26, 3)) ∧ (decode prog_1_method_25_code 28 = .ok (.invokevirtual 195, 3)) ∧ (decode prog_1_method_25_code 31 = .ok (.ifCond .eq 22, 3)) := by decide +kernel
theorem d96_0 : decode prog_1_method_25_code 0 = .ok (.aload_n 0, 1) := dd96_0.1
theorem d96_1 : decode prog_1_method_25_code 1 = .ok (.getfield 26, 3) := dd96_0.2.1
theorem d96_4 : decode prog_1_method_25_code 4 = .ok (.aload_n 0, 1) := dd96_0.2.2.1
theorem d96_5 : decode prog_1_method_25_code 5 = .ok (.getfield 17, 3) := dd96_0.2.2.2.1
theorem d96_8 : decode prog_1_method_25_code 8 = .ok (.invokevirtual 184, 3) := dd96_0.2.2.2.2.1
theorem d96_11 : decode prog_1_method_25_code 11 = .ok (.iconst 0, 1) := dd96_0.2.2.2.2.2.1
theorem d96_12 : decode prog_1_method_25_code 12 = .ok (.istore_n 1, 1) := dd96_0.2.2.2.2.2.2.1
theorem d96_13 : decode prog_1_method_25_code 13 = .ok (.iload_n 1, 1) := dd96_0.2.2.2.2.2.2.2.1
theorem d96_14 : decode prog_1_method_25_code 14 = .ok (.aload_n 0, 1) := dd96_0.2.2.2.2.2.2.2.2.1
theorem d96_15 : decode prog_1_method_25_code 15 = .ok (.getfield 17, 3) := dd96_0.2.2.2.2.2.2.2.2.2.1
theorem d96_18 : decode prog_1_method_25_code 18 = .ok (.getfield 268, 3) := dd96_0.2.2.2.2.2.2.2.2.2.2.1
theorem d96_21 : decode prog_1_method_25_code 21 = .ok (.if_icmp .ge 40, 3) := dd96_0.2.2.2.2.2.2.2.2.2.2.2.1
theorem d96_24 : decode prog_1_method_25_code 24 = .ok (.aload_n 0, 1) := dd96_0.2.2.2.2.2.2.2.2.2.2.2.2.1
theorem d96_25 : decode prog_1_method_25_code 25 = .ok (.getfield 26, 3) := dd96_0.2.2.2.2.2.2.2.2.2.2.2.2.2.1
theorem d96_28 : decode prog_1_method_25_code 28 = .ok (.invokevirtual 195, 3) := dd96_0.2.2.2.2.2.2.2.2.2.2.2.2.2.2.1
theorem d96_31 : decode prog_1_method_25_code 31 = .ok (.ifCond .eq 22, 3) := dd96_0.2.2.2.2.2.2.2.2.2.2.2.2.2.2.2
theorem dd96_34 : (decode prog_1_method_25_code 34 = .ok (.aload_n 0, 1)) ∧ (decode prog_1_method_25_code 35 = .ok (.getfield 26, 3)) ∧ (decode prog_1_method_25_code 38 = .ok (.invokevirtual 199, 3)) ∧ (decode prog_1_method_25_code 41 = .ok (.aload_n 0, 1)) ∧ (decode prog_1_method_25_code 42 = .ok (.getfield 17, 3)) ∧ (decode prog_1_method_25_code 45 = .ok (.getfield 271, 3)) ∧ (decode prog_1_method_25_code 48 = .ok (.iload_n 1, 1)) ∧ (decode prog_1_method_25_code 49 = .ok (.iaload, 1)) ∧ (decode prog_1_method_25_code 50 = .ok (.if_icmp .eq 5, 3)) ∧ (decode prog_1_method_25_code 53 = .ok (.iload_n 1, 1)) ∧ (decode prog_1_method_25_code 54 = .ok (.ireturn, 1)) ∧ (decode prog_1_method_25_code 55 = .ok (.iinc 1 1, 3)) ∧ (decode prog_1_method_25_code 58 = .ok (.goto (-45), 3)) ∧ (decode prog_1_method_25_code 61 = .ok (.bipush (-5), 2)) ∧ (decode prog_1_method_25_code 63 = .ok (.ireturn, 1)) := by decide +kernel
theorem d96_34 : decode prog_1_method_25_code 34 = .ok (.aload_n 0, 1) := dd96_34.1
theorem d96_35 : decode prog_1_method_25_code 35 = .ok (.getfield 26, 3) := dd96_34.2.1
theorem d96_38 : decode prog_1_method_25_code 38 = .ok (.invokevirtual 199, 3) := dd96_34.2.2.1
theorem d96_41 : decode prog_1_method_25_code 41 = .ok (.aload_n 0, 1) := dd96_34.2.2.2.1
theorem d96_42 : decode prog_1_method_25_code 42 = .ok (.getfield 17, 3) := dd96_34.2.2.2.2.1
theorem d96_45 : decode prog_1_method_25_code 45 = .ok (.getfield 271, 3) := dd96_34.2.2.2.2.2.1
theorem d96_48 : decode prog_1_method_25_code 48 = .ok (.iload_n 1, 1) := dd96_34.2.2.2.2.2.2.1
theorem d96_49 : decode prog_1_method_25_code 49 = .ok (.iaload, 1) := dd96_34.2.2.2.2.2.2.2.1
theorem d96_50 : decode prog_1_method_25_code 50 = .ok (.if_icmp .eq 5, 3) := dd96_34.2.2.2.2.2.2.2.2.1
theorem d96_53 : decode prog_1_method_25_code 53 = .ok (.iload_n 1, 1) := dd96_34.2.2.2.2.2.2.2.2.2.1
theorem d96_54 : decode prog_1_method_25_code 54 = .ok (.ireturn, 1) := dd96_34.2.2.2.2.2.2.2.2.2.2.1
theorem d96_55 : decode prog_1_method_25_code 55 = .ok (.iinc 1 1, 3) := dd96_34.2.2.2.2.2.2.2.2.2.2.2.1
theorem d96_58 : decode prog_1_method_25_code 58 = .ok (.goto (-45), 3) := dd96_34.2.2.2.2.2.2.2.2.2.2.2.2.1
theorem d96_61 : decode prog_1_method_25_code 61 = .ok (.bipush (-5), 2) := dd96_34.2.2.2.2.2.2.2.2.2.2.2.2.2.1
theorem d96_63 : decode prog_1_method_25_code 63 = .ok (.ireturn, 1) := dd96_34.2.2.2.2.2.2.2.2.2.2.2.2.2.2
theorem b96_0 {d : Nat} {S : mm_S} {a0 : Nat} (h0 : mm_obj S a0 11 = true) (h1 : (mm_R S a0 2).isSome = true) (h2 : (mm_R S a0 0).isSome = true) (h3 : mm_rk S (mm_rg S a0 2) = 1) : mm_ex (d + 1) 96 0 [.ref a0, .null] [] S =
    mm_bd (mm_cl d 7 [.ref (mm_rg S a0 2), .ref (mm_rg S a0 0)] S) (fun v S2 => mm_ex (d + 1) 96 11 [.ref a0, .null] (v.toList ++ []) S2) :=
  Eq.trans (mx_aload_n t96 d96_0 (x := a0) rfl) <|
  Eq.trans (mx_getR t96 d96_1 rfl fl11_26 h0 h1) <|
  Eq.trans (mx_aload_n t96 d96_4 (x := a0) rfl) <|
  Eq.trans (mx_getR t96 d96_5 rfl fl11_17 h0 h2) <|
  (mx_virt (st := []) (k := 1) t96 [.ref (mm_rg S a0 0)] d96_8 vt11_184 rfl rfl (Nat.le_of_ble_eq_true rfl) (Nat.le_of_ble_eq_true rfl) h3)
theorem b96_11 {d : Nat} {S : mm_S} {a0 : Nat} : mm_ex d 96 11 [.ref a0, .null] [] S =
    mm_ex d 96 13 [.ref a0, .int (nI 0)] [] S :=
  Eq.trans (mx_iconst t96 d96_11 (v := nI 0) rfl) <|
  (mx_istore_n t96 d96_12 (ls' := [.ref a0, .int (nI 0)]) rfl rfl)
theorem b96_13 {d : Nat} {S : mm_S} {a0 : Nat} {x1 : Int32} (h0 : mm_obj S a0 11 = true) (h1 : (mm_R S a0 0).isSome = true) (h2 : mm_obj S (mm_rg S a0 0) 1 = true) : mm_ex d 96 13 [.ref a0, .int x1] [] S =
    if (mm_M S (mm_rg S a0 0) 17) ≤ x1 then mm_ex d 96 61 [.ref a0, .int x1] [] S else mm_ex d 96 24 [.ref a0, .int x1] [] S :=
  Eq.trans (mx_iload_n t96 d96_13 (x := x1) rfl) <|
  Eq.trans (mx_aload_n t96 d96_14 (x := a0) rfl) <|
  Eq.trans (mx_getR t96 d96_15 rfl fl11_17 h0 h1) <|
  Eq.trans (mx_geti t96 d96_18 rfl fl11_268 h2) <|
  (mx_cge t96 d96_21 (tgt := 61) (by decide))
theorem b96_24 {d : Nat} {S : mm_S} {a0 : Nat} {x1 : Int32} (h0 : mm_obj S a0 11 = true) (h1 : (mm_R S a0 2).isSome = true) (h2 : mm_rk S (mm_rg S a0 2) = 1) : mm_ex (d + 1) 96 24 [.ref a0, .int x1] [] S =
    mm_bd (mm_cl d 20 [.ref (mm_rg S a0 2)] S) (fun v S2 => mm_ex (d + 1) 96 31 [.ref a0, .int x1] (v.toList ++ []) S2) :=
  Eq.trans (mx_aload_n t96 d96_24 (x := a0) rfl) <|
  Eq.trans (mx_getR t96 d96_25 rfl fl11_26 h0 h1) <|
  (mx_virt (st := []) (k := 1) t96 [] d96_28 vt11_195 rfl rfl (Nat.le_of_ble_eq_true rfl) (Nat.le_of_ble_eq_true rfl) h2)
theorem b96_31 {d : Nat} {S : mm_S} {a0 : Nat} {x1 : Int32} {p0 : Int32} : mm_ex d 96 31 [.ref a0, .int x1] [.int p0] S =
    if p0 = nI 0 then mm_ex d 96 53 [.ref a0, .int x1] [] S else mm_ex d 96 34 [.ref a0, .int x1] [] S :=
  (mx_ieq t96 d96_31 (tgt := 53) (by decide))
theorem b96_34 {d : Nat} {S : mm_S} {a0 : Nat} {x1 : Int32} (h0 : mm_obj S a0 11 = true) (h1 : (mm_R S a0 2).isSome = true) (h2 : mm_rk S (mm_rg S a0 2) = 1) : mm_ex (d + 1) 96 34 [.ref a0, .int x1] [] S =
    mm_bd (mm_cl d 21 [.ref (mm_rg S a0 2)] S) (fun v S2 => mm_ex (d + 1) 96 41 [.ref a0, .int x1] (v.toList ++ []) S2) :=
  Eq.trans (mx_aload_n t96 d96_34 (x := a0) rfl) <|
  Eq.trans (mx_getR t96 d96_35 rfl fl11_26 h0 h1) <|
  (mx_virt (st := []) (k := 1) t96 [] d96_38 vt11_199 rfl rfl (Nat.le_of_ble_eq_true rfl) (Nat.le_of_ble_eq_true rfl) h2)
theorem b96_41 {d : Nat} {S : mm_S} {a0 : Nat} {x1 : Int32} {p0 : Int32} (h0 : mm_obj S a0 11 = true) (h1 : (mm_R S a0 0).isSome = true) (h2 : mm_obj S (mm_rg S a0 0) 1 = true) (h3 : (mm_R S (mm_rg S a0 0) 6).isSome = true) (h4 : mm_inb x1 (mm_N S (mm_rg S (mm_rg S a0 0) 6)) = true) (h5 : mm_arr S (mm_rg S (mm_rg S a0 0) 6) 13 = true) : mm_ex d 96 41 [.ref a0, .int x1] [.int p0] S =
    if p0 = (mm_M S (mm_rg S (mm_rg S a0 0) 6) (x1).toNatClampNeg) then mm_ex d 96 55 [.ref a0, .int x1] [] S else mm_ex d 96 53 [.ref a0, .int x1] [] S :=
  Eq.trans (mx_aload_n t96 d96_41 (x := a0) rfl) <|
  Eq.trans (mx_getR t96 d96_42 rfl fl11_17 h0 h1) <|
  Eq.trans (mx_getR t96 d96_45 rfl fl11_271 h2 h3) <|
  Eq.trans (mx_iload_n t96 d96_48 (x := x1) rfl) <|
  Eq.trans (mx_iald t96 d96_49 h5 h4) <|
  (mx_ceq t96 d96_50 (tgt := 55) (by decide))
theorem b96_53 {d : Nat} {S : mm_S} {a0 : Nat} {x1 : Int32} : mm_ex d 96 53 [.ref a0, .int x1] [] S =
    some (some (.int x1), S) :=
  Eq.trans (mx_iload_n t96 d96_53 (x := x1) rfl) <|
  (mx_iret t96 d96_54 (ty := .int) rfl rfl (fun h => nomatch h))
theorem b96_55 {d : Nat} {S : mm_S} {a0 : Nat} {x1 : Int32} : mm_ex d 96 55 [.ref a0, .int x1] [] S =
    mm_ex d 96 13 [.ref a0, .int (x1 + nI 1)] [] S :=
  Eq.trans (mx_iinc t96 d96_55 (x := x1) (v := nI 1) (ls' := [.ref a0, .int (x1 + nI 1)]) rfl rfl rfl rfl) <|
  (mx_goto t96 d96_58 (tgt := 13) (by decide))
theorem b96_61 {d : Nat} {S : mm_S} {a0 : Nat} {x1 : Int32} : mm_ex d 96 61 [.ref a0, .int x1] [] S =
    some (some (.int (-5)), S) :=
  Eq.trans (mx_bipush t96 d96_61 (v := -5) rfl) <|
  (mx_iret t96 d96_63 (ty := .int) rfl rfl (fun h => nomatch h))
theorem e96 {d : Nat} {S : mm_S} {a0 : Nat} : mm_cl d 96 [.ref a0] S = mm_ex d 96 0 [.ref a0, .null] [] S := mm_cl_eq t96 (Nat.le_of_ble_eq_true rfl) rfl
/-! X11_judge -/
theorem dd97_0 : (decode prog_1_method_26_code 0 = .ok (.iload_n 1, 1)) ∧ (decode prog_1_method_26_code 1 = .ok (.invokestatic 274, 3)) ∧ (decode prog_1_method_26_code 4 = .ok (.ifCond .ne 5, 3)) ∧ (decode prog_1_method_26_code 7 = .ok (.iconst (-1), 1)) ∧ (decode prog_1_method_26_code 8 = .ok (.ireturn, 1)) ∧ (decode prog_1_method_26_code 9 = .ok (.aload_n 0, 1)) ∧ (decode prog_1_method_26_code 10 = .ok (.getfield 45, 3)) ∧ (decode prog_1_method_26_code 13 = .ok (.iload_n 1, 1)) ∧ (decode prog_1_method_26_code 14 = .ok (.aaload, 1)) ∧ (decode prog_1_method_26_code 15 = .ok (.astore_n 3, 1)) ∧ (decode prog_1_method_26_code 16 = .ok (.aload_n 3, 1)) ∧ (decode prog_1_method_26_code 17 = .ok (.invokevirtual 277, 3)) ∧ (decode prog_1_method_26_code 20 = .ok (.ifCond .eq 6, 3)) ∧ (decode prog_1_method_26_code 23 = .ok (.bipush 100, 2)) ∧ (decode prog_1_method_26_code 25 = .ok (.ireturn, 1)) ∧ (decode prog_1_method_26_code 26 = .ok (.aload_n 3, 1)) := by decide +kernel
theorem d97_0 : decode prog_1_method_26_code 0 = .ok (.iload_n 1, 1) := dd97_0.1
theorem d97_1 : decode prog_1_method_26_code 1 = .ok (.invokestatic 274, 3) := dd97_0.2.1
theorem d97_4 : decode prog_1_method_26_code 4 = .ok (.ifCond .ne 5, 3) := dd97_0.2.2.1
theorem d97_7 : decode prog_1_method_26_code 7 = .ok (.iconst (-1), 1) := dd97_0.2.2.2.1
theorem d97_8 : decode prog_1_method_26_code 8 = .ok (.ireturn, 1) := dd97_0.2.2.2.2.1
theorem d97_9 : decode prog_1_method_26_code 9 = .ok (.aload_n 0, 1) := dd97_0.2.2.2.2.2.1
theorem d97_10 : decode prog_1_method_26_code 10 = .ok (.getfield 45, 3) := dd97_0.2.2.2.2.2.2.1
theorem d97_13 : decode prog_1_method_26_code 13 = .ok (.iload_n 1, 1) := dd97_0.2.2.2.2.2.2.2.1
theorem d97_14 : decode prog_1_method_26_code 14 = .ok (.aaload, 1) := dd97_0.2.2.2.2.2.2.2.2.1
theorem d97_15 : decode prog_1_method_26_code 15 = .ok (.astore_n 3, 1) := dd97_0.2.2.2.2.2.2.2.2.2.1
theorem d97_16 : decode prog_1_method_26_code 16 = .ok (.aload_n 3, 1) := dd97_0.2.2.2.2.2.2.2.2.2.2.1
theorem d97_17 : decode prog_1_method_26_code 17 = .ok (.invokevirtual 277, 3) := dd97_0.2.2.2.2.2.2.2.2.2.2.2.1
theorem d97_20 : decode prog_1_method_26_code 20 = .ok (.ifCond .eq 6, 3) := dd97_0.2.2.2.2.2.2.2.2.2.2.2.2.1
theorem d97_23 : decode prog_1_method_26_code 23 = .ok (.bipush 100, 2) := dd97_0.2.2.2.2.2.2.2.2.2.2.2.2.2.1
theorem d97_25 : decode prog_1_method_26_code 25 = .ok (.ireturn, 1) := dd97_0.2.2.2.2.2.2.2.2.2.2.2.2.2.2.1
theorem d97_26 : decode prog_1_method_26_code 26 = .ok (.aload_n 3, 1) := dd97_0.2.2.2.2.2.2.2.2.2.2.2.2.2.2.2
theorem dd97_27 : (decode prog_1_method_26_code 27 = .ok (.getfield 280, 3)) ∧ (decode prog_1_method_26_code 30 = .ok (.iconst 2, 1)) ∧ (decode prog_1_method_26_code 31 = .ok (.if_icmp .eq 6, 3)) ∧ (decode prog_1_method_26_code 34 = .ok (.bipush (-12), 2)) ∧ (decode prog_1_method_26_code 36 = .ok (.ireturn, 1)) ∧ (decode prog_1_method_26_code 37 = .ok (.iload_n 2, 1)) ∧ (decode prog_1_method_26_code 38 = .ok (.ifCond .ge 6, 3)) ∧ (decode prog_1_method_26_code 41 = .ok (.bipush 100, 2)) ∧ (decode prog_1_method_26_code 43 = .ok (.ireturn, 1)) ∧ (decode prog_1_method_26_code 44 = .ok (.aload_n 0, 1)) ∧ (decode prog_1_method_26_code 45 = .ok (.invokevirtual 202, 3)) ∧ (decode prog_1_method_26_code 48 = .ok (.iconst 0, 1)) ∧ (decode prog_1_method_26_code 49 = .ok (.istore 4, 2)) ∧ (decode prog_1_method_26_code 51 = .ok (.iload 4, 2)) ∧ (decode prog_1_method_26_code 53 = .ok (.aload_n 0, 1)) ∧ (decode prog_1_method_26_code 54 = .ok (.getfield 17, 3)) := by decide +kernel
theorem d97_27 : decode prog_1_method_26_code 27 = .ok (.getfield 280, 3) := dd97_27.1
theorem d97_30 : decode prog_1_method_26_code 30 = .ok (.iconst 2, 1) := dd97_27.2.1
theorem d97_31 : decode prog_1_method_26_code 31 = .ok (.if_icmp .eq 6, 3) := dd97_27.2.2.1
theorem d97_34 : decode prog_1_method_26_code 34 = .ok (.bipush (-12), 2) := dd97_27.2.2.2.1
theorem d97_36 : decode prog_1_method_26_code 36 = .ok (.ireturn, 1) := dd97_27.2.2.2.2.1
theorem d97_37 : decode prog_1_method_26_code 37 = .ok (.iload_n 2, 1) := dd97_27.2.2.2.2.2.1
theorem d97_38 : decode prog_1_method_26_code 38 = .ok (.ifCond .ge 6, 3) := dd97_27.2.2.2.2.2.2.1
theorem d97_41 : decode prog_1_method_26_code 41 = .ok (.bipush 100, 2) := dd97_27.2.2.2.2.2.2.2.1
theorem d97_43 : decode prog_1_method_26_code 43 = .ok (.ireturn, 1) := dd97_27.2.2.2.2.2.2.2.2.1
theorem d97_44 : decode prog_1_method_26_code 44 = .ok (.aload_n 0, 1) := dd97_27.2.2.2.2.2.2.2.2.2.1
theorem d97_45 : decode prog_1_method_26_code 45 = .ok (.invokevirtual 202, 3) := dd97_27.2.2.2.2.2.2.2.2.2.2.1
theorem d97_48 : decode prog_1_method_26_code 48 = .ok (.iconst 0, 1) := dd97_27.2.2.2.2.2.2.2.2.2.2.2.1
theorem d97_49 : decode prog_1_method_26_code 49 = .ok (.istore 4, 2) := dd97_27.2.2.2.2.2.2.2.2.2.2.2.2.1
theorem d97_51 : decode prog_1_method_26_code 51 = .ok (.iload 4, 2) := dd97_27.2.2.2.2.2.2.2.2.2.2.2.2.2.1
theorem d97_53 : decode prog_1_method_26_code 53 = .ok (.aload_n 0, 1) := dd97_27.2.2.2.2.2.2.2.2.2.2.2.2.2.2.1
theorem d97_54 : decode prog_1_method_26_code 54 = .ok (.getfield 17, 3) := dd97_27.2.2.2.2.2.2.2.2.2.2.2.2.2.2.2
theorem dd97_57 : (decode prog_1_method_26_code 57 = .ok (.getfield 65, 3)) ∧ (decode prog_1_method_26_code 60 = .ok (.if_icmp .ge 53, 3)) ∧ (decode prog_1_method_26_code 63 = .ok (.iload_n 2, 1)) ∧ (decode prog_1_method_26_code 64 = .ok (.aload_n 3, 1)) ∧ (decode prog_1_method_26_code 65 = .ok (.getfield 283, 3)) ∧ (decode prog_1_method_26_code 68 = .ok (.iload 4, 2)) ∧ (decode prog_1_method_26_code 70 = .ok (.isub, 1)) ∧ (decode prog_1_method_26_code 71 = .ok (.if_icmp .lt 9, 3)) ∧ (decode prog_1_method_26_code 74 = .ok (.bipush 100, 2)) ∧ (decode prog_1_method_26_code 76 = .ok (.iload 4, 2)) ∧ (decode prog_1_method_26_code 78 = .ok (.iadd, 1)) ∧ (decode prog_1_method_26_code 79 = .ok (.ireturn, 1)) ∧ (decode prog_1_method_26_code 80 = .ok (.aload_n 3, 1)) ∧ (decode prog_1_method_26_code 81 = .ok (.getfield 284, 3)) ∧ (decode prog_1_method_26_code 84 = .ok (.iload_n 2, 1)) ∧ (decode prog_1_method_26_code 85 = .ok (.iload 4, 2)) := by decide +kernel
theorem d97_57 : decode prog_1_method_26_code 57 = .ok (.getfield 65, 3) := dd97_57.1
theorem d97_60 : decode prog_1_method_26_code 60 = .ok (.if_icmp .ge 53, 3) := dd97_57.2.1
theorem d97_63 : decode prog_1_method_26_code 63 = .ok (.iload_n 2, 1) := dd97_57.2.2.1
theorem d97_64 : decode prog_1_method_26_code 64 = .ok (.aload_n 3, 1) := dd97_57.2.2.2.1
theorem d97_65 : decode prog_1_method_26_code 65 = .ok (.getfield 283, 3) := dd97_57.2.2.2.2.1
theorem d97_68 : decode prog_1_method_26_code 68 = .ok (.iload 4, 2) := dd97_57.2.2.2.2.2.1
theorem d97_70 : decode prog_1_method_26_code 70 = .ok (.isub, 1) := dd97_57.2.2.2.2.2.2.1
theorem d97_71 : decode prog_1_method_26_code 71 = .ok (.if_icmp .lt 9, 3) := dd97_57.2.2.2.2.2.2.2.1
theorem d97_74 : decode prog_1_method_26_code 74 = .ok (.bipush 100, 2) := dd97_57.2.2.2.2.2.2.2.2.1
theorem d97_76 : decode prog_1_method_26_code 76 = .ok (.iload 4, 2) := dd97_57.2.2.2.2.2.2.2.2.2.1
theorem d97_78 : decode prog_1_method_26_code 78 = .ok (.iadd, 1) := dd97_57.2.2.2.2.2.2.2.2.2.2.1
theorem d97_79 : decode prog_1_method_26_code 79 = .ok (.ireturn, 1) := dd97_57.2.2.2.2.2.2.2.2.2.2.2.1
theorem d97_80 : decode prog_1_method_26_code 80 = .ok (.aload_n 3, 1) := dd97_57.2.2.2.2.2.2.2.2.2.2.2.2.1
theorem d97_81 : decode prog_1_method_26_code 81 = .ok (.getfield 284, 3) := dd97_57.2.2.2.2.2.2.2.2.2.2.2.2.2.1
theorem d97_84 : decode prog_1_method_26_code 84 = .ok (.iload_n 2, 1) := dd97_57.2.2.2.2.2.2.2.2.2.2.2.2.2.2.1
theorem d97_85 : decode prog_1_method_26_code 85 = .ok (.iload 4, 2) := dd97_57.2.2.2.2.2.2.2.2.2.2.2.2.2.2.2
theorem dd97_87 : (decode prog_1_method_26_code 87 = .ok (.iadd, 1)) ∧ (decode prog_1_method_26_code 88 = .ok (.laload, 1)) ∧ (decode prog_1_method_26_code 89 = .ok (.aload_n 0, 1)) ∧ (decode prog_1_method_26_code 90 = .ok (.getfield 26, 3)) ∧ (decode prog_1_method_26_code 93 = .ok (.getfield 120, 3)) ∧ (decode prog_1_method_26_code 96 = .ok (.iload 4, 2)) ∧ (decode prog_1_method_26_code 98 = .ok (.iaload, 1)) ∧ (decode prog_1_method_26_code 99 = .ok (.i2l, 1)) ∧ (decode prog_1_method_26_code 100 = .ok (.lcmp, 1)) ∧ (decode prog_1_method_26_code 101 = .ok (.ifCond .eq 6, 3)) ∧ (decode prog_1_method_26_code 104 = .ok (.iload 4, 2)) ∧ (decode prog_1_method_26_code 106 = .ok (.ireturn, 1)) ∧ (decode prog_1_method_26_code 107 = .ok (.iinc 4 1, 3)) ∧ (decode prog_1_method_26_code 110 = .ok (.goto (-59), 3)) ∧ (decode prog_1_method_26_code 113 = .ok (.bipush (-5), 2)) ∧ (decode prog_1_method_26_code 115 = .ok (.ireturn, 1)) := by decide +kernel
theorem d97_87 : decode prog_1_method_26_code 87 = .ok (.iadd, 1) := dd97_87.1
theorem d97_88 : decode prog_1_method_26_code 88 = .ok (.laload, 1) := dd97_87.2.1
theorem d97_89 : decode prog_1_method_26_code 89 = .ok (.aload_n 0, 1) := dd97_87.2.2.1
theorem d97_90 : decode prog_1_method_26_code 90 = .ok (.getfield 26, 3) := dd97_87.2.2.2.1
theorem d97_93 : decode prog_1_method_26_code 93 = .ok (.getfield 120, 3) := dd97_87.2.2.2.2.1
theorem d97_96 : decode prog_1_method_26_code 96 = .ok (.iload 4, 2) := dd97_87.2.2.2.2.2.1
theorem d97_98 : decode prog_1_method_26_code 98 = .ok (.iaload, 1) := dd97_87.2.2.2.2.2.2.1
theorem d97_99 : decode prog_1_method_26_code 99 = .ok (.i2l, 1) := dd97_87.2.2.2.2.2.2.2.1
theorem d97_100 : decode prog_1_method_26_code 100 = .ok (.lcmp, 1) := dd97_87.2.2.2.2.2.2.2.2.1
theorem d97_101 : decode prog_1_method_26_code 101 = .ok (.ifCond .eq 6, 3) := dd97_87.2.2.2.2.2.2.2.2.2.1
theorem d97_104 : decode prog_1_method_26_code 104 = .ok (.iload 4, 2) := dd97_87.2.2.2.2.2.2.2.2.2.2.1
theorem d97_106 : decode prog_1_method_26_code 106 = .ok (.ireturn, 1) := dd97_87.2.2.2.2.2.2.2.2.2.2.2.1
theorem d97_107 : decode prog_1_method_26_code 107 = .ok (.iinc 4 1, 3) := dd97_87.2.2.2.2.2.2.2.2.2.2.2.2.1
theorem d97_110 : decode prog_1_method_26_code 110 = .ok (.goto (-59), 3) := dd97_87.2.2.2.2.2.2.2.2.2.2.2.2.2.1
theorem d97_113 : decode prog_1_method_26_code 113 = .ok (.bipush (-5), 2) := dd97_87.2.2.2.2.2.2.2.2.2.2.2.2.2.2.1
theorem d97_115 : decode prog_1_method_26_code 115 = .ok (.ireturn, 1) := dd97_87.2.2.2.2.2.2.2.2.2.2.2.2.2.2.2
theorem b97_0 {d : Nat} {S : mm_S} {a0 : Nat} {x1 : Int32} {x2 : Int32} : mm_ex (d + 1) 97 0 [.ref a0, .int x1, .int x2, .null, .null] [] S =
    mm_bd (mm_cl d 109 [.int x1] S) (fun v S2 => mm_ex (d + 1) 97 4 [.ref a0, .int x1, .int x2, .null, .null] (v.toList ++ []) S2) :=
  Eq.trans (mx_iload_n t97 d97_0 (x := x1) rfl) <|
  (mx_stat (st := []) t97 [.int x1] d97_1 acn11_274 mxn11_274 st11_274 rfl (Nat.le_of_ble_eq_true rfl) (Nat.le_of_ble_eq_true rfl))
theorem b97_4 {d : Nat} {S : mm_S} {a0 : Nat} {x1 : Int32} {x2 : Int32} {p0 : Int32} : mm_ex d 97 4 [.ref a0, .int x1, .int x2, .null, .null] [.int p0] S =
    if p0 = nI 0 then mm_ex d 97 7 [.ref a0, .int x1, .int x2, .null, .null] [] S else mm_ex d 97 9 [.ref a0, .int x1, .int x2, .null, .null] [] S :=
  (mx_ine t97 d97_4 (tgt := 9) (by decide))
theorem b97_7 {d : Nat} {S : mm_S} {a0 : Nat} {x1 : Int32} {x2 : Int32} : mm_ex d 97 7 [.ref a0, .int x1, .int x2, .null, .null] [] S =
    some (some (.int (-1)), S) :=
  Eq.trans (mx_iconst t97 d97_7 (v := -1) rfl) <|
  (mx_iret t97 d97_8 (ty := .int) rfl rfl (fun h => nomatch h))
theorem b97_9 {d : Nat} {S : mm_S} {a0 : Nat} {x1 : Int32} {x2 : Int32} (h0 : mm_obj S a0 11 = true) (h1 : (mm_R S a0 6).isSome = true) (h2 : mm_inb x1 (mm_N S (mm_rg S a0 6)) = true) (h3 : (mm_arr S (mm_rg S a0 6) 16 || mm_arr S (mm_rg S a0 6) 17 || mm_arr S (mm_rg S a0 6) 18) = true) (h4 : (mm_R S (mm_rg S a0 6) (x1).toNatClampNeg).isSome = true) (h5 : mm_rk S (mm_rg S (mm_rg S a0 6) (x1).toNatClampNeg) = 8) : mm_ex (d + 1) 97 9 [.ref a0, .int x1, .int x2, .null, .null] [] S =
    mm_bd (mm_cl d 61 [.ref (mm_rg S (mm_rg S a0 6) (x1).toNatClampNeg)] S) (fun v S2 => mm_ex (d + 1) 97 20 [.ref a0, .int x1, .int x2, .ref (mm_rg S (mm_rg S a0 6) (x1).toNatClampNeg), .null] (v.toList ++ []) S2) :=
  Eq.trans (mx_aload_n t97 d97_9 (x := a0) rfl) <|
  Eq.trans (mx_getR t97 d97_10 rfl fl11_45 h0 h1) <|
  Eq.trans (mx_iload_n t97 d97_13 (x := x1) rfl) <|
  Eq.trans (mx_qaldR t97 d97_14 h3 h2 h4) <|
  Eq.trans (mx_astore_n t97 d97_15 (ls' := [.ref a0, .int x1, .int x2, .ref (mm_rg S (mm_rg S a0 6) (x1).toNatClampNeg), .null]) rfl rfl) <|
  Eq.trans (mx_aload_n t97 d97_16 (x := mm_rg S (mm_rg S a0 6) (x1).toNatClampNeg) rfl) <|
  (mx_virt (st := []) (k := 8) t97 [] d97_17 vt11_277 rfl rfl (Nat.le_of_ble_eq_true rfl) (Nat.le_of_ble_eq_true rfl) h5)
theorem b97_20 {d : Nat} {S : mm_S} {a0 : Nat} {x1 : Int32} {x2 : Int32} {a3 : Nat} {p0 : Int32} : mm_ex d 97 20 [.ref a0, .int x1, .int x2, .ref a3, .null] [.int p0] S =
    if p0 = nI 0 then mm_ex d 97 26 [.ref a0, .int x1, .int x2, .ref a3, .null] [] S else mm_ex d 97 23 [.ref a0, .int x1, .int x2, .ref a3, .null] [] S :=
  (mx_ieq t97 d97_20 (tgt := 26) (by decide))
theorem b97_23 {d : Nat} {S : mm_S} {a0 : Nat} {x1 : Int32} {x2 : Int32} {a3 : Nat} : mm_ex d 97 23 [.ref a0, .int x1, .int x2, .ref a3, .null] [] S =
    some (some (.int (nI 100)), S) :=
  Eq.trans (mx_bipush t97 d97_23 (v := nI 100) rfl) <|
  (mx_iret t97 d97_25 (ty := .int) rfl rfl (fun h => nomatch h))
theorem b97_26 {d : Nat} {S : mm_S} {a0 : Nat} {x1 : Int32} {x2 : Int32} {a3 : Nat} (h0 : mm_obj S a3 8 = true) : mm_ex d 97 26 [.ref a0, .int x1, .int x2, .ref a3, .null] [] S =
    if (mm_M S a3 1) = (nI 2) then mm_ex d 97 37 [.ref a0, .int x1, .int x2, .ref a3, .null] [] S else mm_ex d 97 34 [.ref a0, .int x1, .int x2, .ref a3, .null] [] S :=
  Eq.trans (mx_aload_n t97 d97_26 (x := a3) rfl) <|
  Eq.trans (mx_geti t97 d97_27 rfl fl11_280 h0) <|
  Eq.trans (mx_iconst t97 d97_30 (v := nI 2) rfl) <|
  (mx_ceq t97 d97_31 (tgt := 37) (by decide))
theorem b97_34 {d : Nat} {S : mm_S} {a0 : Nat} {x1 : Int32} {x2 : Int32} {a3 : Nat} : mm_ex d 97 34 [.ref a0, .int x1, .int x2, .ref a3, .null] [] S =
    some (some (.int (-12)), S) :=
  Eq.trans (mx_bipush t97 d97_34 (v := -12) rfl) <|
  (mx_iret t97 d97_36 (ty := .int) rfl rfl (fun h => nomatch h))
theorem b97_37 {d : Nat} {S : mm_S} {a0 : Nat} {x1 : Int32} {x2 : Int32} {a3 : Nat} : mm_ex d 97 37 [.ref a0, .int x1, .int x2, .ref a3, .null] [] S =
    if nI 0 ≤ x2 then mm_ex d 97 44 [.ref a0, .int x1, .int x2, .ref a3, .null] [] S else mm_ex d 97 41 [.ref a0, .int x1, .int x2, .ref a3, .null] [] S :=
  Eq.trans (mx_iload_n t97 d97_37 (x := x2) rfl) <|
  (mx_ige t97 d97_38 (tgt := 44) (by decide))
theorem b97_41 {d : Nat} {S : mm_S} {a0 : Nat} {x1 : Int32} {x2 : Int32} {a3 : Nat} : mm_ex d 97 41 [.ref a0, .int x1, .int x2, .ref a3, .null] [] S =
    some (some (.int (nI 100)), S) :=
  Eq.trans (mx_bipush t97 d97_41 (v := nI 100) rfl) <|
  (mx_iret t97 d97_43 (ty := .int) rfl rfl (fun h => nomatch h))
theorem b97_44 {d : Nat} {S : mm_S} {a0 : Nat} {x1 : Int32} {x2 : Int32} {a3 : Nat} (h0 : mm_rk S a0 = 11) : mm_ex (d + 1) 97 44 [.ref a0, .int x1, .int x2, .ref a3, .null] [] S =
    mm_bd (mm_cl d 113 [.ref a0] S) (fun v S2 => mm_ex (d + 1) 97 48 [.ref a0, .int x1, .int x2, .ref a3, .null] (v.toList ++ []) S2) :=
  Eq.trans (mx_aload_n t97 d97_44 (x := a0) rfl) <|
  (mx_virt (st := []) (k := 11) t97 [] d97_45 vt11_202 rfl rfl (Nat.le_of_ble_eq_true rfl) (Nat.le_of_ble_eq_true rfl) h0)
theorem b97_48 {d : Nat} {S : mm_S} {a0 : Nat} {x1 : Int32} {x2 : Int32} {a3 : Nat} : mm_ex d 97 48 [.ref a0, .int x1, .int x2, .ref a3, .null] [] S =
    mm_ex d 97 51 [.ref a0, .int x1, .int x2, .ref a3, .int (nI 0)] [] S :=
  Eq.trans (mx_iconst t97 d97_48 (v := nI 0) rfl) <|
  (mx_istore t97 d97_49 (ls' := [.ref a0, .int x1, .int x2, .ref a3, .int (nI 0)]) rfl rfl)
theorem b97_51 {d : Nat} {S : mm_S} {a0 : Nat} {x1 : Int32} {x2 : Int32} {a3 : Nat} {x4 : Int32} (h0 : mm_obj S a0 11 = true) (h1 : (mm_R S a0 0).isSome = true) (h2 : mm_obj S (mm_rg S a0 0) 1 = true) : mm_ex d 97 51 [.ref a0, .int x1, .int x2, .ref a3, .int x4] [] S =
    if (mm_M S (mm_rg S a0 0) 10) ≤ x4 then mm_ex d 97 113 [.ref a0, .int x1, .int x2, .ref a3, .int x4] [] S else mm_ex d 97 63 [.ref a0, .int x1, .int x2, .ref a3, .int x4] [] S :=
  Eq.trans (mx_iload t97 d97_51 (x := x4) rfl) <|
  Eq.trans (mx_aload_n t97 d97_53 (x := a0) rfl) <|
  Eq.trans (mx_getR t97 d97_54 rfl fl11_17 h0 h1) <|
  Eq.trans (mx_geti t97 d97_57 rfl fl11_65 h2) <|
  (mx_cge t97 d97_60 (tgt := 113) (by decide))
theorem b97_63 {d : Nat} {S : mm_S} {a0 : Nat} {x1 : Int32} {x2 : Int32} {a3 : Nat} {x4 : Int32} (h0 : mm_obj S a3 8 = true) : mm_ex d 97 63 [.ref a0, .int x1, .int x2, .ref a3, .int x4] [] S =
    if x2 < ((mm_M S a3 2) - x4) then mm_ex d 97 80 [.ref a0, .int x1, .int x2, .ref a3, .int x4] [] S else mm_ex d 97 74 [.ref a0, .int x1, .int x2, .ref a3, .int x4] [] S :=
  Eq.trans (mx_iload_n t97 d97_63 (x := x2) rfl) <|
  Eq.trans (mx_aload_n t97 d97_64 (x := a3) rfl) <|
  Eq.trans (mx_geti t97 d97_65 rfl fl11_283 h0) <|
  Eq.trans (mx_iload t97 d97_68 (x := x4) rfl) <|
  Eq.trans (mx_isub t97 d97_70) <|
  (mx_clt t97 d97_71 (tgt := 80) (by decide))
theorem b97_74 {d : Nat} {S : mm_S} {a0 : Nat} {x1 : Int32} {x2 : Int32} {a3 : Nat} {x4 : Int32} : mm_ex d 97 74 [.ref a0, .int x1, .int x2, .ref a3, .int x4] [] S =
    some (some (.int ((nI 100) + x4)), S) :=
  Eq.trans (mx_bipush t97 d97_74 (v := nI 100) rfl) <|
  Eq.trans (mx_iload t97 d97_76 (x := x4) rfl) <|
  Eq.trans (mx_iadd t97 d97_78) <|
  (mx_iret t97 d97_79 (ty := .int) rfl rfl (fun h => nomatch h))
theorem b97_80 {d : Nat} {S : mm_S} {a0 : Nat} {x1 : Int32} {x2 : Int32} {a3 : Nat} {x4 : Int32} (h0 : mm_obj S a3 8 = true) (h1 : (mm_R S a3 0).isSome = true) (h2 : mm_inb (x2 + x4) (mm_N S (mm_rg S a3 0)) = true) (h3 : mm_arr S (mm_rg S a3 0) 14 = true) (h4 : mm_obj S a0 11 = true) (h5 : (mm_R S a0 2).isSome = true) (h6 : mm_obj S (mm_rg S a0 2) 1 = true) (h7 : (mm_R S (mm_rg S a0 2) 4).isSome = true) (h8 : mm_inb x4 (mm_N S (mm_rg S (mm_rg S a0 2) 4)) = true) (h9 : mm_arr S (mm_rg S (mm_rg S a0 2) 4) 13 = true) : mm_ex d 97 80 [.ref a0, .int x1, .int x2, .ref a3, .int x4] [] S =
    if (lg_cmp (mm_L S (mm_rg S a3 0) (x2 + x4).toNatClampNeg) ((mm_M S (mm_rg S (mm_rg S a0 2) 4) (x4).toNatClampNeg).toInt64)) = nI 0 then mm_ex d 97 107 [.ref a0, .int x1, .int x2, .ref a3, .int x4] [] S else mm_ex d 97 104 [.ref a0, .int x1, .int x2, .ref a3, .int x4] [] S :=
  Eq.trans (mx_aload_n t97 d97_80 (x := a3) rfl) <|
  Eq.trans (mx_getR t97 d97_81 rfl fl11_284 h0 h1) <|
  Eq.trans (mx_iload_n t97 d97_84 (x := x2) rfl) <|
  Eq.trans (mx_iload t97 d97_85 (x := x4) rfl) <|
  Eq.trans (mx_iadd t97 d97_87) <|
  Eq.trans (mx_lald t97 d97_88 h3 h2) <|
  Eq.trans (mx_aload_n t97 d97_89 (x := a0) rfl) <|
  Eq.trans (mx_getR t97 d97_90 rfl fl11_26 h4 h5) <|
  Eq.trans (mx_getR t97 d97_93 rfl fl11_120 h6 h7) <|
  Eq.trans (mx_iload t97 d97_96 (x := x4) rfl) <|
  Eq.trans (mx_iald t97 d97_98 h9 h8) <|
  Eq.trans (mx_i2l t97 d97_99) <|
  Eq.trans (mx_lcmp t97 d97_100) <|
  (mx_ieq t97 d97_101 (tgt := 107) (by decide))
theorem b97_104 {d : Nat} {S : mm_S} {a0 : Nat} {x1 : Int32} {x2 : Int32} {a3 : Nat} {x4 : Int32} : mm_ex d 97 104 [.ref a0, .int x1, .int x2, .ref a3, .int x4] [] S =
    some (some (.int x4), S) :=
  Eq.trans (mx_iload t97 d97_104 (x := x4) rfl) <|
  (mx_iret t97 d97_106 (ty := .int) rfl rfl (fun h => nomatch h))
theorem b97_107 {d : Nat} {S : mm_S} {a0 : Nat} {x1 : Int32} {x2 : Int32} {a3 : Nat} {x4 : Int32} : mm_ex d 97 107 [.ref a0, .int x1, .int x2, .ref a3, .int x4] [] S =
    mm_ex d 97 51 [.ref a0, .int x1, .int x2, .ref a3, .int (x4 + nI 1)] [] S :=
  Eq.trans (mx_iinc t97 d97_107 (x := x4) (v := nI 1) (ls' := [.ref a0, .int x1, .int x2, .ref a3, .int (x4 + nI 1)]) rfl rfl rfl rfl) <|
  (mx_goto t97 d97_110 (tgt := 51) (by decide))
theorem b97_113 {d : Nat} {S : mm_S} {a0 : Nat} {x1 : Int32} {x2 : Int32} {a3 : Nat} {x4 : Int32} : mm_ex d 97 113 [.ref a0, .int x1, .int x2, .ref a3, .int x4] [] S =
    some (some (.int (-5)), S) :=
  Eq.trans (mx_bipush t97 d97_113 (v := -5) rfl) <|
  (mx_iret t97 d97_115 (ty := .int) rfl rfl (fun h => nomatch h))
theorem e97 {d : Nat} {S : mm_S} {a0 : Nat} {x1 : Int32} {x2 : Int32} : mm_cl d 97 [.ref a0, .int x1, .int x2] S = mm_ex d 97 0 [.ref a0, .int x1, .int x2, .null, .null] [] S := mm_cl_eq t97 (Nat.le_of_ble_eq_true rfl) rfl
/-! X11_image -/
theorem d98_0 : decode prog_1_method_27_code 0 = .ok (.aload_n 0, 1) := by decide +kernel
theorem d98_1 : decode prog_1_method_27_code 1 = .ok (.getfield 23, 3) := by decide +kernel
theorem d98_4 : decode prog_1_method_27_code 4 = .ok (.aload_n 0, 1) := by decide +kernel
theorem d98_5 : decode prog_1_method_27_code 5 = .ok (.getfield 17, 3) := by decide +kernel
theorem d98_8 : decode prog_1_method_27_code 8 = .ok (.invokevirtual 184, 3) := by decide +kernel
theorem d98_11 : decode prog_1_method_27_code 11 = .ok (.aload_n 0, 1) := by decide +kernel
theorem d98_12 : decode prog_1_method_27_code 12 = .ok (.iconst 1, 1) := by decide +kernel
theorem d98_13 : decode prog_1_method_27_code 13 = .ok (.putfield 288, 3) := by decide +kernel
theorem d98_16 : decode prog_1_method_27_code 16 = .ok (.aload_n 0, 1) := by decide +kernel
theorem d98_17 : decode prog_1_method_27_code 17 = .ok (.getfield 17, 3) := by decide +kernel
theorem d98_20 : decode prog_1_method_27_code 20 = .ok (.getfield 65, 3) := by decide +kernel
theorem d98_23 : decode prog_1_method_27_code 23 = .ok (.ireturn, 1) := by decide +kernel
theorem b98_0 {d : Nat} {S : mm_S} {a0 : Nat} (h0 : mm_obj S a0 11 = true) (h1 : (mm_R S a0 1).isSome = true) (h2 : (mm_R S a0 0).isSome = true) (h3 : mm_rk S (mm_rg S a0 1) = 1) : mm_ex (d + 1) 98 0 [.ref a0] [] S =
    mm_bd (mm_cl d 7 [.ref (mm_rg S a0 1), .ref (mm_rg S a0 0)] S) (fun v S2 => mm_ex (d + 1) 98 11 [.ref a0] (v.toList ++ []) S2) :=
  Eq.trans (mx_aload_n t98 d98_0 (x := a0) rfl) <|
  Eq.trans (mx_getR t98 d98_1 rfl fl11_23 h0 h1) <|
  Eq.trans (mx_aload_n t98 d98_4 (x := a0) rfl) <|
  Eq.trans (mx_getR t98 d98_5 rfl fl11_17 h0 h2) <|
  (mx_virt (st := []) (k := 1) t98 [.ref (mm_rg S a0 0)] d98_8 vt11_184 rfl rfl (Nat.le_of_ble_eq_true rfl) (Nat.le_of_ble_eq_true rfl) h3)
theorem b98_11 {d : Nat} {S : mm_S} {a0 : Nat} (h0 : mm_obj S a0 11 = true) (h1 : (mm_R S a0 0).isSome = true) : mm_ex d 98 11 [.ref a0] [] S =
    mm_ex d 98 20 [.ref a0] [.ref (mm_rg S a0 0)] (mm_uM S a0 12 (nI 1)) :=
  Eq.trans (mx_aload_n t98 d98_11 (x := a0) rfl) <|
  Eq.trans (mx_iconst t98 d98_12 (v := nI 1) rfl) <|
  Eq.trans (mx_putz2 t98 d98_13 fl11_288 rfl h0 (Or.inr rfl)) <|
  Eq.trans (mx_aload_n t98 d98_16 (x := a0) rfl) <|
  (mx_getR t98 d98_17 rfl fl11_17 h0 h1)
theorem b98_20 {d : Nat} {S : mm_S} {a0 : Nat} {p0 : Nat} (h0 : mm_obj S p0 1 = true) : mm_ex d 98 20 [.ref a0] [.ref p0] S =
    some (some (.int (mm_M S p0 10)), S) :=
  Eq.trans (mx_geti t98 d98_20 rfl fl11_65 h0) <|
  (mx_iret t98 d98_23 (ty := .int) rfl rfl (fun h => nomatch h))
theorem e98 {d : Nat} {S : mm_S} {a0 : Nat} : mm_cl d 98 [.ref a0] S = mm_ex d 98 0 [.ref a0] [] S := mm_cl_eq t98 (Nat.le_of_ble_eq_true rfl) rfl
/-! X11_undo -/
theorem d99_0 : decode prog_1_method_28_code 0 = .ok (.aload_n 0, 1) := by decide +kernel
theorem d99_1 : decode prog_1_method_28_code 1 = .ok (.getfield 288, 3) := by decide +kernel
theorem d99_4 : decode prog_1_method_28_code 4 = .ok (.ifCond .ne 6, 3) := by decide +kernel
theorem d99_7 : decode prog_1_method_28_code 7 = .ok (.bipush (-3), 2) := by decide +kernel
theorem d99_9 : decode prog_1_method_28_code 9 = .ok (.ireturn, 1) := by decide +kernel
theorem d99_10 : decode prog_1_method_28_code 10 = .ok (.aload_n 0, 1) := by decide +kernel
theorem d99_11 : decode prog_1_method_28_code 11 = .ok (.getfield 17, 3) := by decide +kernel
theorem d99_14 : decode prog_1_method_28_code 14 = .ok (.aload_n 0, 1) := by decide +kernel
theorem d99_15 : decode prog_1_method_28_code 15 = .ok (.getfield 23, 3) := by decide +kernel
theorem d99_18 : decode prog_1_method_28_code 18 = .ok (.invokevirtual 184, 3) := by decide +kernel
theorem d99_21 : decode prog_1_method_28_code 21 = .ok (.aload_n 0, 1) := by decide +kernel
theorem d99_22 : decode prog_1_method_28_code 22 = .ok (.getfield 17, 3) := by decide +kernel
theorem d99_25 : decode prog_1_method_28_code 25 = .ok (.getfield 65, 3) := by decide +kernel
theorem d99_28 : decode prog_1_method_28_code 28 = .ok (.ireturn, 1) := by decide +kernel
theorem b99_0 {d : Nat} {S : mm_S} {a0 : Nat} (h0 : mm_obj S a0 11 = true) : mm_ex d 99 0 [.ref a0] [] S =
    if (mm_M S a0 12) = nI 0 then mm_ex d 99 7 [.ref a0] [] S else mm_ex d 99 10 [.ref a0] [] S :=
  Eq.trans (mx_aload_n t99 d99_0 (x := a0) rfl) <|
  Eq.trans (mx_getz t99 d99_1 rfl fl11_288 h0) <|
  (mx_ine t99 d99_4 (tgt := 10) (by decide))
theorem b99_7 {d : Nat} {S : mm_S} {a0 : Nat} : mm_ex d 99 7 [.ref a0] [] S =
    some (some (.int (-3)), S) :=
  Eq.trans (mx_bipush t99 d99_7 (v := -3) rfl) <|
  (mx_iret t99 d99_9 (ty := .int) rfl rfl (fun h => nomatch h))
theorem b99_10 {d : Nat} {S : mm_S} {a0 : Nat} (h0 : mm_obj S a0 11 = true) (h1 : (mm_R S a0 0).isSome = true) (h2 : (mm_R S a0 1).isSome = true) (h3 : mm_rk S (mm_rg S a0 0) = 1) : mm_ex (d + 1) 99 10 [.ref a0] [] S =
    mm_bd (mm_cl d 7 [.ref (mm_rg S a0 0), .ref (mm_rg S a0 1)] S) (fun v S2 => mm_ex (d + 1) 99 21 [.ref a0] (v.toList ++ []) S2) :=
  Eq.trans (mx_aload_n t99 d99_10 (x := a0) rfl) <|
  Eq.trans (mx_getR t99 d99_11 rfl fl11_17 h0 h1) <|
  Eq.trans (mx_aload_n t99 d99_14 (x := a0) rfl) <|
  Eq.trans (mx_getR t99 d99_15 rfl fl11_23 h0 h2) <|
  (mx_virt (st := []) (k := 1) t99 [.ref (mm_rg S a0 1)] d99_18 vt11_184 rfl rfl (Nat.le_of_ble_eq_true rfl) (Nat.le_of_ble_eq_true rfl) h3)
theorem b99_21 {d : Nat} {S : mm_S} {a0 : Nat} (h0 : mm_obj S a0 11 = true) (h1 : (mm_R S a0 0).isSome = true) (h2 : mm_obj S (mm_rg S a0 0) 1 = true) : mm_ex d 99 21 [.ref a0] [] S =
    some (some (.int (mm_M S (mm_rg S a0 0) 10)), S) :=
  Eq.trans (mx_aload_n t99 d99_21 (x := a0) rfl) <|
  Eq.trans (mx_getR t99 d99_22 rfl fl11_17 h0 h1) <|
  Eq.trans (mx_geti t99 d99_25 rfl fl11_65 h2) <|
  (mx_iret t99 d99_28 (ty := .int) rfl rfl (fun h => nomatch h))
theorem e99 {d : Nat} {S : mm_S} {a0 : Nat} : mm_cl d 99 [.ref a0] S = mm_ex d 99 0 [.ref a0] [] S := mm_cl_eq t99 (Nat.le_of_ble_eq_true rfl) rfl
/-! X11_act -/
theorem dd100_0 : (decode prog_1_method_29_code 0 = .ok (.aload_n 0, 1)) ∧ (decode prog_1_method_29_code 1 = .ok (.getfield 50, 3)) ∧ (decode prog_1_method_29_code 4 = .ok (.iconst 0, 1)) ∧ (decode prog_1_method_29_code 5 = .ok (.iconst 0, 1)) ∧ (decode prog_1_method_29_code 6 = .ok (.iastore, 1)) ∧ (decode prog_1_method_29_code 7 = .ok (.aload_n 0, 1)) ∧ (decode prog_1_method_29_code 8 = .ok (.getfield 17, 3)) ∧ (decode prog_1_method_29_code 11 = .ok (.iload_n 1, 1)) ∧ (decode prog_1_method_29_code 12 = .ok (.invokevirtual 77, 3)) ∧ (decode prog_1_method_29_code 15 = .ok (.ifCond .ne 5, 3)) ∧ (decode prog_1_method_29_code 18 = .ok (.iconst 0, 1)) ∧ (decode prog_1_method_29_code 19 = .ok (.ireturn, 1)) ∧ (decode prog_1_method_29_code 20 = .ok (.iload_n 2, 1)) ∧ (decode prog_1_method_29_code 21 = .ok (.tableswitch 81 0 2 #[27, 45, 63], 27)) ∧ (decode prog_1_method_29_code 48 = .ok (.aload_n 0, 1)) ∧ (decode prog_1_method_29_code 49 = .ok (.getfield 17, 3)) := by decide +kernel
theorem d100_0 : decode prog_1_method_29_code 0 = .ok (.aload_n 0, 1) := dd100_0.1
theorem d100_1 : decode prog_1_method_29_code 1 = .ok (.getfield 50, 3) := dd100_0.2.1
theorem d100_4 : decode prog_1_method_29_code 4 = .ok (.iconst 0, 1) := dd100_0.2.2.1
theorem d100_5 : decode prog_1_method_29_code 5 = .ok (.iconst 0, 1) := dd100_0.2.2.2.1
theorem d100_6 : decode prog_1_method_29_code 6 = .ok (.iastore, 1) := dd100_0.2.2.2.2.1
theorem d100_7 : decode prog_1_method_29_code 7 = .ok (.aload_n 0, 1) := dd100_0.2.2.2.2.2.1
theorem d100_8 : decode prog_1_method_29_code 8 = .ok (.getfield 17, 3) := dd100_0.2.2.2.2.2.2.1
theorem d100_11 : decode prog_1_method_29_code 11 = .ok (.iload_n 1, 1) := dd100_0.2.2.2.2.2.2.2.1
theorem d100_12 : decode prog_1_method_29_code 12 = .ok (.invokevirtual 77, 3) := dd100_0.2.2.2.2.2.2.2.2.1
theorem d100_15 : decode prog_1_method_29_code 15 = .ok (.ifCond .ne 5, 3) := dd100_0.2.2.2.2.2.2.2.2.2.1
theorem d100_18 : decode prog_1_method_29_code 18 = .ok (.iconst 0, 1) := dd100_0.2.2.2.2.2.2.2.2.2.2.1
theorem d100_19 : decode prog_1_method_29_code 19 = .ok (.ireturn, 1) := dd100_0.2.2.2.2.2.2.2.2.2.2.2.1
theorem d100_20 : decode prog_1_method_29_code 20 = .ok (.iload_n 2, 1) := dd100_0.2.2.2.2.2.2.2.2.2.2.2.2.1
theorem d100_21 : decode prog_1_method_29_code 21 = .ok (.tableswitch 81 0 2 #[27, 45, 63], 27) := dd100_0.2.2.2.2.2.2.2.2.2.2.2.2.2.1
theorem d100_48 : decode prog_1_method_29_code 48 = .ok (.aload_n 0, 1) := dd100_0.2.2.2.2.2.2.2.2.2.2.2.2.2.2.1
theorem d100_49 : decode prog_1_method_29_code 49 = .ok (.getfield 17, 3) := dd100_0.2.2.2.2.2.2.2.2.2.2.2.2.2.2.2
theorem dd100_52 : (decode prog_1_method_29_code 52 = .ok (.getfield 81, 3)) ∧ (decode prog_1_method_29_code 55 = .ok (.iload_n 1, 1)) ∧ (decode prog_1_method_29_code 56 = .ok (.aaload, 1)) ∧ (decode prog_1_method_29_code 57 = .ok (.iload_n 3, 1)) ∧ (decode prog_1_method_29_code 58 = .ok (.aload_n 0, 1)) ∧ (decode prog_1_method_29_code 59 = .ok (.getfield 50, 3)) ∧ (decode prog_1_method_29_code 62 = .ok (.invokevirtual 292, 3)) ∧ (decode prog_1_method_29_code 65 = .ok (.ireturn, 1)) ∧ (decode prog_1_method_29_code 66 = .ok (.aload_n 0, 1)) ∧ (decode prog_1_method_29_code 67 = .ok (.getfield 17, 3)) ∧ (decode prog_1_method_29_code 70 = .ok (.getfield 81, 3)) ∧ (decode prog_1_method_29_code 73 = .ok (.iload_n 1, 1)) ∧ (decode prog_1_method_29_code 74 = .ok (.aaload, 1)) ∧ (decode prog_1_method_29_code 75 = .ok (.iload_n 3, 1)) ∧ (decode prog_1_method_29_code 76 = .ok (.aload_n 0, 1)) ∧ (decode prog_1_method_29_code 77 = .ok (.getfield 50, 3)) := by decide +kernel
theorem d100_52 : decode prog_1_method_29_code 52 = .ok (.getfield 81, 3) := dd100_52.1
theorem d100_55 : decode prog_1_method_29_code 55 = .ok (.iload_n 1, 1) := dd100_52.2.1
theorem d100_56 : decode prog_1_method_29_code 56 = .ok (.aaload, 1) := dd100_52.2.2.1
theorem d100_57 : decode prog_1_method_29_code 57 = .ok (.iload_n 3, 1) := dd100_52.2.2.2.1
theorem d100_58 : decode prog_1_method_29_code 58 = .ok (.aload_n 0, 1) := dd100_52.2.2.2.2.1
theorem d100_59 : decode prog_1_method_29_code 59 = .ok (.getfield 50, 3) := dd100_52.2.2.2.2.2.1
theorem d100_62 : decode prog_1_method_29_code 62 = .ok (.invokevirtual 292, 3) := dd100_52.2.2.2.2.2.2.1
theorem d100_65 : decode prog_1_method_29_code 65 = .ok (.ireturn, 1) := dd100_52.2.2.2.2.2.2.2.1
theorem d100_66 : decode prog_1_method_29_code 66 = .ok (.aload_n 0, 1) := dd100_52.2.2.2.2.2.2.2.2.1
theorem d100_67 : decode prog_1_method_29_code 67 = .ok (.getfield 17, 3) := dd100_52.2.2.2.2.2.2.2.2.2.1
theorem d100_70 : decode prog_1_method_29_code 70 = .ok (.getfield 81, 3) := dd100_52.2.2.2.2.2.2.2.2.2.2.1
theorem d100_73 : decode prog_1_method_29_code 73 = .ok (.iload_n 1, 1) := dd100_52.2.2.2.2.2.2.2.2.2.2.2.1
theorem d100_74 : decode prog_1_method_29_code 74 = .ok (.aaload, 1) := dd100_52.2.2.2.2.2.2.2.2.2.2.2.2.1
theorem d100_75 : decode prog_1_method_29_code 75 = .ok (.iload_n 3, 1) := dd100_52.2.2.2.2.2.2.2.2.2.2.2.2.2.1
theorem d100_76 : decode prog_1_method_29_code 76 = .ok (.aload_n 0, 1) := dd100_52.2.2.2.2.2.2.2.2.2.2.2.2.2.2.1
theorem d100_77 : decode prog_1_method_29_code 77 = .ok (.getfield 50, 3) := dd100_52.2.2.2.2.2.2.2.2.2.2.2.2.2.2.2
theorem dd100_80 : (decode prog_1_method_29_code 80 = .ok (.invokevirtual 296, 3)) ∧ (decode prog_1_method_29_code 83 = .ok (.ireturn, 1)) ∧ (decode prog_1_method_29_code 84 = .ok (.aload_n 0, 1)) ∧ (decode prog_1_method_29_code 85 = .ok (.getfield 17, 3)) ∧ (decode prog_1_method_29_code 88 = .ok (.getfield 81, 3)) ∧ (decode prog_1_method_29_code 91 = .ok (.iload_n 1, 1)) ∧ (decode prog_1_method_29_code 92 = .ok (.aaload, 1)) ∧ (decode prog_1_method_29_code 93 = .ok (.iload_n 3, 1)) ∧ (decode prog_1_method_29_code 94 = .ok (.aload_n 0, 1)) ∧ (decode prog_1_method_29_code 95 = .ok (.getfield 50, 3)) ∧ (decode prog_1_method_29_code 98 = .ok (.invokevirtual 299, 3)) ∧ (decode prog_1_method_29_code 101 = .ok (.ireturn, 1)) ∧ (decode prog_1_method_29_code 102 = .ok (.iconst 0, 1)) ∧ (decode prog_1_method_29_code 103 = .ok (.ireturn, 1)) := by decide +kernel
theorem d100_80 : decode prog_1_method_29_code 80 = .ok (.invokevirtual 296, 3) := dd100_80.1
theorem d100_83 : decode prog_1_method_29_code 83 = .ok (.ireturn, 1) := dd100_80.2.1
theorem d100_84 : decode prog_1_method_29_code 84 = .ok (.aload_n 0, 1) := dd100_80.2.2.1
theorem d100_85 : decode prog_1_method_29_code 85 = .ok (.getfield 17, 3) := dd100_80.2.2.2.1
theorem d100_88 : decode prog_1_method_29_code 88 = .ok (.getfield 81, 3) := dd100_80.2.2.2.2.1
theorem d100_91 : decode prog_1_method_29_code 91 = .ok (.iload_n 1, 1) := dd100_80.2.2.2.2.2.1
theorem d100_92 : decode prog_1_method_29_code 92 = .ok (.aaload, 1) := dd100_80.2.2.2.2.2.2.1
theorem d100_93 : decode prog_1_method_29_code 93 = .ok (.iload_n 3, 1) := dd100_80.2.2.2.2.2.2.2.1
theorem d100_94 : decode prog_1_method_29_code 94 = .ok (.aload_n 0, 1) := dd100_80.2.2.2.2.2.2.2.2.1
theorem d100_95 : decode prog_1_method_29_code 95 = .ok (.getfield 50, 3) := dd100_80.2.2.2.2.2.2.2.2.2.1
theorem d100_98 : decode prog_1_method_29_code 98 = .ok (.invokevirtual 299, 3) := dd100_80.2.2.2.2.2.2.2.2.2.2.1
theorem d100_101 : decode prog_1_method_29_code 101 = .ok (.ireturn, 1) := dd100_80.2.2.2.2.2.2.2.2.2.2.2.1
theorem d100_102 : decode prog_1_method_29_code 102 = .ok (.iconst 0, 1) := dd100_80.2.2.2.2.2.2.2.2.2.2.2.2.1
theorem d100_103 : decode prog_1_method_29_code 103 = .ok (.ireturn, 1) := dd100_80.2.2.2.2.2.2.2.2.2.2.2.2.2
theorem b100_0 {d : Nat} {S : mm_S} {a0 : Nat} {x1 : Int32} {x2 : Int32} {x3 : Int32} (h0 : mm_obj S a0 11 = true) (h1 : (mm_R S a0 7).isSome = true) (h2 : mm_arr S (mm_rg S a0 7) 13 = true) (h3 : mm_inb (nI 0) (mm_N S (mm_rg S a0 7)) = true) (h4 : (mm_R S a0 0).isSome = true) (h5 : mm_rk S (mm_rg S a0 0) = 1) : mm_ex (d + 1) 100 0 [.ref a0, .int x1, .int x2, .int x3] [] S =
    mm_bd (mm_cl d 8 [.ref (mm_rg S a0 0), .int x1] (mm_uM S (mm_rg S a0 7) (nI 0).toNatClampNeg (nI 0))) (fun v S2 => mm_ex (d + 1) 100 15 [.ref a0, .int x1, .int x2, .int x3] (v.toList ++ []) S2) :=
  Eq.trans (mx_aload_n t100 d100_0 (x := a0) rfl) <|
  Eq.trans (mx_getR t100 d100_1 rfl fl11_50 h0 h1) <|
  Eq.trans (mx_iconst t100 d100_4 (v := nI 0) rfl) <|
  Eq.trans (mx_iconst t100 d100_5 (v := nI 0) rfl) <|
  Eq.trans (mx_iast2 t100 d100_6 h2 h3) <|
  Eq.trans (mx_aload_n t100 d100_7 (x := a0) rfl) <|
  Eq.trans (mx_getR t100 d100_8 rfl fl11_17 h0 h4) <|
  Eq.trans (mx_iload_n t100 d100_11 (x := x1) rfl) <|
  (mx_virt (st := []) (k := 1) t100 [.int x1] d100_12 vt11_77 rfl rfl (Nat.le_of_ble_eq_true rfl) (Nat.le_of_ble_eq_true rfl) h5)
theorem b100_15 {d : Nat} {S : mm_S} {a0 : Nat} {x1 : Int32} {x2 : Int32} {x3 : Int32} {p0 : Int32} : mm_ex d 100 15 [.ref a0, .int x1, .int x2, .int x3] [.int p0] S =
    if p0 = nI 0 then mm_ex d 100 18 [.ref a0, .int x1, .int x2, .int x3] [] S else mm_ex d 100 20 [.ref a0, .int x1, .int x2, .int x3] [] S :=
  (mx_ine t100 d100_15 (tgt := 20) (by decide))
theorem b100_18 {d : Nat} {S : mm_S} {a0 : Nat} {x1 : Int32} {x2 : Int32} {x3 : Int32} : mm_ex d 100 18 [.ref a0, .int x1, .int x2, .int x3] [] S =
    some (some (.int (nI 0)), S) :=
  Eq.trans (mx_iconst t100 d100_18 (v := nI 0) rfl) <|
  (mx_iret t100 d100_19 (ty := .int) rfl rfl (fun h => nomatch h))
theorem b100_20 {d : Nat} {S : mm_S} {a0 : Nat} {x1 : Int32} {x2 : Int32} {x3 : Int32} : mm_ex d 100 20 [.ref a0, .int x1, .int x2, .int x3] [] S =
    mm_ex d 100 21 [.ref a0, .int x1, .int x2, .int x3] [.int x2] S :=
  (mx_iload_n t100 d100_20 (x := x2) rfl)
theorem b100_21 {d : Nat} {S : mm_S} {a0 : Nat} {x1 : Int32} {x2 : Int32} {x3 : Int32} {p0 : Int32} : mm_ex d 100 21 [.ref a0, .int x1, .int x2, .int x3] [.int p0] S =
    if p0 = nI 0 then mm_ex d 100 48 [.ref a0, .int x1, .int x2, .int x3] [] S else if p0 = nI 1 then mm_ex d 100 66 [.ref a0, .int x1, .int x2, .int x3] [] S else if p0 = nI 2 then mm_ex d 100 84 [.ref a0, .int x1, .int x2, .int x3] [] S else mm_ex d 100 102 [.ref a0, .int x1, .int x2, .int x3] [] S := by
  by_cases e0 : p0 = nI 0
  · subst e0
    rw [if_pos rfl]
    exact mx_tswI t100 d100_21 (by decide) (off := 27) (by decide) (by decide)
  by_cases e1 : p0 = nI 1
  · subst e1
    rw [if_neg (by decide), if_pos rfl]
    exact mx_tswI t100 d100_21 (by decide) (off := 45) (by decide) (by decide)
  by_cases e2 : p0 = nI 2
  · subst e2
    rw [if_neg (by decide), if_neg (by decide), if_pos rfl]
    exact mx_tswI t100 d100_21 (by decide) (off := 63) (by decide) (by decide)
  rw [if_neg e0, if_neg e1, if_neg e2]
  have g0 := mm_ni32 e0
  have g1 := mm_ni32 e1
  have g2 := mm_ni32 e2
  rw [show (nI 0 : Int32).toInt = 0 by decide] at g0
  rw [show (nI 1 : Int32).toInt = 1 by decide] at g1
  rw [show (nI 2 : Int32).toInt = 2 by decide] at g2
  exact mx_tswD t100 d100_21 (by omega) (by decide)
theorem b100_48_k0 {d : Nat} {S : mm_S} {a0 : Nat} {x1 : Int32} {x2 : Int32} {x3 : Int32} (h0 : mm_obj S a0 11 = true) (h1 : (mm_R S a0 0).isSome = true) (h2 : mm_obj S (mm_rg S a0 0) 1 = true) (h3 : (mm_R S (mm_rg S a0 0) 0).isSome = true) (h4 : mm_inb x1 (mm_N S (mm_rg S (mm_rg S a0 0) 0)) = true) (h5 : (mm_arr S (mm_rg S (mm_rg S a0 0) 0) 16 || mm_arr S (mm_rg S (mm_rg S a0 0) 0) 17 || mm_arr S (mm_rg S (mm_rg S a0 0) 0) 18) = true) (h6 : (mm_R S (mm_rg S (mm_rg S a0 0) 0) (x1).toNatClampNeg).isSome = true) (h7 : (mm_R S a0 7).isSome = true) (h8 : mm_rk S (mm_rg S (mm_rg S (mm_rg S a0 0) 0) (x1).toNatClampNeg) = 0) : mm_ex (d + 1) 100 48 [.ref a0, .int x1, .int x2, .int x3] [] S =
    mm_bd (mm_cl d 3 [.ref (mm_rg S (mm_rg S (mm_rg S a0 0) 0) (x1).toNatClampNeg), .int x3, .ref (mm_rg S a0 7)] S) (fun v S2 => mm_ex (d + 1) 100 65 [.ref a0, .int x1, .int x2, .int x3] (v.toList ++ []) S2) :=
  Eq.trans (mx_aload_n t100 d100_48 (x := a0) rfl) <|
  Eq.trans (mx_getR t100 d100_49 rfl fl11_17 h0 h1) <|
  Eq.trans (mx_getR t100 d100_52 rfl fl11_81 h2 h3) <|
  Eq.trans (mx_iload_n t100 d100_55 (x := x1) rfl) <|
  Eq.trans (mx_qaldR t100 d100_56 h5 h4 h6) <|
  Eq.trans (mx_iload_n t100 d100_57 (x := x3) rfl) <|
  Eq.trans (mx_aload_n t100 d100_58 (x := a0) rfl) <|
  Eq.trans (mx_getR t100 d100_59 rfl fl11_50 h0 h7) <|
  (mx_virt (st := []) (k := 0) t100 [.int x3, .ref (mm_rg S a0 7)] d100_62 vt11_292 rfl rfl (Nat.le_of_ble_eq_true rfl) (Nat.le_of_ble_eq_true rfl) h8)
theorem b100_48_k2 {d : Nat} {S : mm_S} {a0 : Nat} {x1 : Int32} {x2 : Int32} {x3 : Int32} (h0 : mm_obj S a0 11 = true) (h1 : (mm_R S a0 0).isSome = true) (h2 : mm_obj S (mm_rg S a0 0) 1 = true) (h3 : (mm_R S (mm_rg S a0 0) 0).isSome = true) (h4 : mm_inb x1 (mm_N S (mm_rg S (mm_rg S a0 0) 0)) = true) (h5 : (mm_arr S (mm_rg S (mm_rg S a0 0) 0) 16 || mm_arr S (mm_rg S (mm_rg S a0 0) 0) 17 || mm_arr S (mm_rg S (mm_rg S a0 0) 0) 18) = true) (h6 : (mm_R S (mm_rg S (mm_rg S a0 0) 0) (x1).toNatClampNeg).isSome = true) (h7 : (mm_R S a0 7).isSome = true) (h8 : mm_rk S (mm_rg S (mm_rg S (mm_rg S a0 0) 0) (x1).toNatClampNeg) = 2) : mm_ex (d + 1) 100 48 [.ref a0, .int x1, .int x2, .int x3] [] S =
    mm_bd (mm_cl d 3 [.ref (mm_rg S (mm_rg S (mm_rg S a0 0) 0) (x1).toNatClampNeg), .int x3, .ref (mm_rg S a0 7)] S) (fun v S2 => mm_ex (d + 1) 100 65 [.ref a0, .int x1, .int x2, .int x3] (v.toList ++ []) S2) :=
  Eq.trans (mx_aload_n t100 d100_48 (x := a0) rfl) <|
  Eq.trans (mx_getR t100 d100_49 rfl fl11_17 h0 h1) <|
  Eq.trans (mx_getR t100 d100_52 rfl fl11_81 h2 h3) <|
  Eq.trans (mx_iload_n t100 d100_55 (x := x1) rfl) <|
  Eq.trans (mx_qaldR t100 d100_56 h5 h4 h6) <|
  Eq.trans (mx_iload_n t100 d100_57 (x := x3) rfl) <|
  Eq.trans (mx_aload_n t100 d100_58 (x := a0) rfl) <|
  Eq.trans (mx_getR t100 d100_59 rfl fl11_50 h0 h7) <|
  (mx_virt (st := []) (k := 2) t100 [.int x3, .ref (mm_rg S a0 7)] d100_62 vt11_292 rfl rfl (Nat.le_of_ble_eq_true rfl) (Nat.le_of_ble_eq_true rfl) h8)
theorem b100_48_k3 {d : Nat} {S : mm_S} {a0 : Nat} {x1 : Int32} {x2 : Int32} {x3 : Int32} (h0 : mm_obj S a0 11 = true) (h1 : (mm_R S a0 0).isSome = true) (h2 : mm_obj S (mm_rg S a0 0) 1 = true) (h3 : (mm_R S (mm_rg S a0 0) 0).isSome = true) (h4 : mm_inb x1 (mm_N S (mm_rg S (mm_rg S a0 0) 0)) = true) (h5 : (mm_arr S (mm_rg S (mm_rg S a0 0) 0) 16 || mm_arr S (mm_rg S (mm_rg S a0 0) 0) 17 || mm_arr S (mm_rg S (mm_rg S a0 0) 0) 18) = true) (h6 : (mm_R S (mm_rg S (mm_rg S a0 0) 0) (x1).toNatClampNeg).isSome = true) (h7 : (mm_R S a0 7).isSome = true) (h8 : mm_rk S (mm_rg S (mm_rg S (mm_rg S a0 0) 0) (x1).toNatClampNeg) = 3) : mm_ex (d + 1) 100 48 [.ref a0, .int x1, .int x2, .int x3] [] S =
    mm_bd (mm_cl d 71 [.ref (mm_rg S (mm_rg S (mm_rg S a0 0) 0) (x1).toNatClampNeg), .int x3, .ref (mm_rg S a0 7)] S) (fun v S2 => mm_ex (d + 1) 100 65 [.ref a0, .int x1, .int x2, .int x3] (v.toList ++ []) S2) :=
  Eq.trans (mx_aload_n t100 d100_48 (x := a0) rfl) <|
  Eq.trans (mx_getR t100 d100_49 rfl fl11_17 h0 h1) <|
  Eq.trans (mx_getR t100 d100_52 rfl fl11_81 h2 h3) <|
  Eq.trans (mx_iload_n t100 d100_55 (x := x1) rfl) <|
  Eq.trans (mx_qaldR t100 d100_56 h5 h4 h6) <|
  Eq.trans (mx_iload_n t100 d100_57 (x := x3) rfl) <|
  Eq.trans (mx_aload_n t100 d100_58 (x := a0) rfl) <|
  Eq.trans (mx_getR t100 d100_59 rfl fl11_50 h0 h7) <|
  (mx_virt (st := []) (k := 3) t100 [.int x3, .ref (mm_rg S a0 7)] d100_62 vt11_292 rfl rfl (Nat.le_of_ble_eq_true rfl) (Nat.le_of_ble_eq_true rfl) h8)
theorem b100_48_k4 {d : Nat} {S : mm_S} {a0 : Nat} {x1 : Int32} {x2 : Int32} {x3 : Int32} (h0 : mm_obj S a0 11 = true) (h1 : (mm_R S a0 0).isSome = true) (h2 : mm_obj S (mm_rg S a0 0) 1 = true) (h3 : (mm_R S (mm_rg S a0 0) 0).isSome = true) (h4 : mm_inb x1 (mm_N S (mm_rg S (mm_rg S a0 0) 0)) = true) (h5 : (mm_arr S (mm_rg S (mm_rg S a0 0) 0) 16 || mm_arr S (mm_rg S (mm_rg S a0 0) 0) 17 || mm_arr S (mm_rg S (mm_rg S a0 0) 0) 18) = true) (h6 : (mm_R S (mm_rg S (mm_rg S a0 0) 0) (x1).toNatClampNeg).isSome = true) (h7 : (mm_R S a0 7).isSome = true) (h8 : mm_rk S (mm_rg S (mm_rg S (mm_rg S a0 0) 0) (x1).toNatClampNeg) = 4) : mm_ex (d + 1) 100 48 [.ref a0, .int x1, .int x2, .int x3] [] S =
    mm_bd (mm_cl d 3 [.ref (mm_rg S (mm_rg S (mm_rg S a0 0) 0) (x1).toNatClampNeg), .int x3, .ref (mm_rg S a0 7)] S) (fun v S2 => mm_ex (d + 1) 100 65 [.ref a0, .int x1, .int x2, .int x3] (v.toList ++ []) S2) :=
  Eq.trans (mx_aload_n t100 d100_48 (x := a0) rfl) <|
  Eq.trans (mx_getR t100 d100_49 rfl fl11_17 h0 h1) <|
  Eq.trans (mx_getR t100 d100_52 rfl fl11_81 h2 h3) <|
  Eq.trans (mx_iload_n t100 d100_55 (x := x1) rfl) <|
  Eq.trans (mx_qaldR t100 d100_56 h5 h4 h6) <|
  Eq.trans (mx_iload_n t100 d100_57 (x := x3) rfl) <|
  Eq.trans (mx_aload_n t100 d100_58 (x := a0) rfl) <|
  Eq.trans (mx_getR t100 d100_59 rfl fl11_50 h0 h7) <|
  (mx_virt (st := []) (k := 4) t100 [.int x3, .ref (mm_rg S a0 7)] d100_62 vt11_292 rfl rfl (Nat.le_of_ble_eq_true rfl) (Nat.le_of_ble_eq_true rfl) h8)
theorem b100_48_k7 {d : Nat} {S : mm_S} {a0 : Nat} {x1 : Int32} {x2 : Int32} {x3 : Int32} (h0 : mm_obj S a0 11 = true) (h1 : (mm_R S a0 0).isSome = true) (h2 : mm_obj S (mm_rg S a0 0) 1 = true) (h3 : (mm_R S (mm_rg S a0 0) 0).isSome = true) (h4 : mm_inb x1 (mm_N S (mm_rg S (mm_rg S a0 0) 0)) = true) (h5 : (mm_arr S (mm_rg S (mm_rg S a0 0) 0) 16 || mm_arr S (mm_rg S (mm_rg S a0 0) 0) 17 || mm_arr S (mm_rg S (mm_rg S a0 0) 0) 18) = true) (h6 : (mm_R S (mm_rg S (mm_rg S a0 0) 0) (x1).toNatClampNeg).isSome = true) (h7 : (mm_R S a0 7).isSome = true) (h8 : mm_rk S (mm_rg S (mm_rg S (mm_rg S a0 0) 0) (x1).toNatClampNeg) = 7) : mm_ex (d + 1) 100 48 [.ref a0, .int x1, .int x2, .int x3] [] S =
    mm_bd (mm_cl d 57 [.ref (mm_rg S (mm_rg S (mm_rg S a0 0) 0) (x1).toNatClampNeg), .int x3, .ref (mm_rg S a0 7)] S) (fun v S2 => mm_ex (d + 1) 100 65 [.ref a0, .int x1, .int x2, .int x3] (v.toList ++ []) S2) :=
  Eq.trans (mx_aload_n t100 d100_48 (x := a0) rfl) <|
  Eq.trans (mx_getR t100 d100_49 rfl fl11_17 h0 h1) <|
  Eq.trans (mx_getR t100 d100_52 rfl fl11_81 h2 h3) <|
  Eq.trans (mx_iload_n t100 d100_55 (x := x1) rfl) <|
  Eq.trans (mx_qaldR t100 d100_56 h5 h4 h6) <|
  Eq.trans (mx_iload_n t100 d100_57 (x := x3) rfl) <|
  Eq.trans (mx_aload_n t100 d100_58 (x := a0) rfl) <|
  Eq.trans (mx_getR t100 d100_59 rfl fl11_50 h0 h7) <|
  (mx_virt (st := []) (k := 7) t100 [.int x3, .ref (mm_rg S a0 7)] d100_62 vt11_292 rfl rfl (Nat.le_of_ble_eq_true rfl) (Nat.le_of_ble_eq_true rfl) h8)
theorem b100_48_k9 {d : Nat} {S : mm_S} {a0 : Nat} {x1 : Int32} {x2 : Int32} {x3 : Int32} (h0 : mm_obj S a0 11 = true) (h1 : (mm_R S a0 0).isSome = true) (h2 : mm_obj S (mm_rg S a0 0) 1 = true) (h3 : (mm_R S (mm_rg S a0 0) 0).isSome = true) (h4 : mm_inb x1 (mm_N S (mm_rg S (mm_rg S a0 0) 0)) = true) (h5 : (mm_arr S (mm_rg S (mm_rg S a0 0) 0) 16 || mm_arr S (mm_rg S (mm_rg S a0 0) 0) 17 || mm_arr S (mm_rg S (mm_rg S a0 0) 0) 18) = true) (h6 : (mm_R S (mm_rg S (mm_rg S a0 0) 0) (x1).toNatClampNeg).isSome = true) (h7 : (mm_R S a0 7).isSome = true) (h8 : mm_rk S (mm_rg S (mm_rg S (mm_rg S a0 0) 0) (x1).toNatClampNeg) = 9) : mm_ex (d + 1) 100 48 [.ref a0, .int x1, .int x2, .int x3] [] S =
    mm_bd (mm_cl d 68 [.ref (mm_rg S (mm_rg S (mm_rg S a0 0) 0) (x1).toNatClampNeg), .int x3, .ref (mm_rg S a0 7)] S) (fun v S2 => mm_ex (d + 1) 100 65 [.ref a0, .int x1, .int x2, .int x3] (v.toList ++ []) S2) :=
  Eq.trans (mx_aload_n t100 d100_48 (x := a0) rfl) <|
  Eq.trans (mx_getR t100 d100_49 rfl fl11_17 h0 h1) <|
  Eq.trans (mx_getR t100 d100_52 rfl fl11_81 h2 h3) <|
  Eq.trans (mx_iload_n t100 d100_55 (x := x1) rfl) <|
  Eq.trans (mx_qaldR t100 d100_56 h5 h4 h6) <|
  Eq.trans (mx_iload_n t100 d100_57 (x := x3) rfl) <|
  Eq.trans (mx_aload_n t100 d100_58 (x := a0) rfl) <|
  Eq.trans (mx_getR t100 d100_59 rfl fl11_50 h0 h7) <|
  (mx_virt (st := []) (k := 9) t100 [.int x3, .ref (mm_rg S a0 7)] d100_62 vt11_292 rfl rfl (Nat.le_of_ble_eq_true rfl) (Nat.le_of_ble_eq_true rfl) h8)
theorem b100_48_k10 {d : Nat} {S : mm_S} {a0 : Nat} {x1 : Int32} {x2 : Int32} {x3 : Int32} (h0 : mm_obj S a0 11 = true) (h1 : (mm_R S a0 0).isSome = true) (h2 : mm_obj S (mm_rg S a0 0) 1 = true) (h3 : (mm_R S (mm_rg S a0 0) 0).isSome = true) (h4 : mm_inb x1 (mm_N S (mm_rg S (mm_rg S a0 0) 0)) = true) (h5 : (mm_arr S (mm_rg S (mm_rg S a0 0) 0) 16 || mm_arr S (mm_rg S (mm_rg S a0 0) 0) 17 || mm_arr S (mm_rg S (mm_rg S a0 0) 0) 18) = true) (h6 : (mm_R S (mm_rg S (mm_rg S a0 0) 0) (x1).toNatClampNeg).isSome = true) (h7 : (mm_R S a0 7).isSome = true) (h8 : mm_rk S (mm_rg S (mm_rg S (mm_rg S a0 0) 0) (x1).toNatClampNeg) = 10) : mm_ex (d + 1) 100 48 [.ref a0, .int x1, .int x2, .int x3] [] S =
    mm_bd (mm_cl d 71 [.ref (mm_rg S (mm_rg S (mm_rg S a0 0) 0) (x1).toNatClampNeg), .int x3, .ref (mm_rg S a0 7)] S) (fun v S2 => mm_ex (d + 1) 100 65 [.ref a0, .int x1, .int x2, .int x3] (v.toList ++ []) S2) :=
  Eq.trans (mx_aload_n t100 d100_48 (x := a0) rfl) <|
  Eq.trans (mx_getR t100 d100_49 rfl fl11_17 h0 h1) <|
  Eq.trans (mx_getR t100 d100_52 rfl fl11_81 h2 h3) <|
  Eq.trans (mx_iload_n t100 d100_55 (x := x1) rfl) <|
  Eq.trans (mx_qaldR t100 d100_56 h5 h4 h6) <|
  Eq.trans (mx_iload_n t100 d100_57 (x := x3) rfl) <|
  Eq.trans (mx_aload_n t100 d100_58 (x := a0) rfl) <|
  Eq.trans (mx_getR t100 d100_59 rfl fl11_50 h0 h7) <|
  (mx_virt (st := []) (k := 10) t100 [.int x3, .ref (mm_rg S a0 7)] d100_62 vt11_292 rfl rfl (Nat.le_of_ble_eq_true rfl) (Nat.le_of_ble_eq_true rfl) h8)
theorem b100_65 {d : Nat} {S : mm_S} {a0 : Nat} {x1 : Int32} {x2 : Int32} {x3 : Int32} {p0 : Int32} : mm_ex d 100 65 [.ref a0, .int x1, .int x2, .int x3] [.int p0] S =
    some (some (.int p0), S) :=
  (mx_iret t100 d100_65 (ty := .int) rfl rfl (fun h => nomatch h))
theorem b100_66_k0 {d : Nat} {S : mm_S} {a0 : Nat} {x1 : Int32} {x2 : Int32} {x3 : Int32} (h0 : mm_obj S a0 11 = true) (h1 : (mm_R S a0 0).isSome = true) (h2 : mm_obj S (mm_rg S a0 0) 1 = true) (h3 : (mm_R S (mm_rg S a0 0) 0).isSome = true) (h4 : mm_inb x1 (mm_N S (mm_rg S (mm_rg S a0 0) 0)) = true) (h5 : (mm_arr S (mm_rg S (mm_rg S a0 0) 0) 16 || mm_arr S (mm_rg S (mm_rg S a0 0) 0) 17 || mm_arr S (mm_rg S (mm_rg S a0 0) 0) 18) = true) (h6 : (mm_R S (mm_rg S (mm_rg S a0 0) 0) (x1).toNatClampNeg).isSome = true) (h7 : (mm_R S a0 7).isSome = true) (h8 : mm_rk S (mm_rg S (mm_rg S (mm_rg S a0 0) 0) (x1).toNatClampNeg) = 0) : mm_ex (d + 1) 100 66 [.ref a0, .int x1, .int x2, .int x3] [] S =
    mm_bd (mm_cl d 4 [.ref (mm_rg S (mm_rg S (mm_rg S a0 0) 0) (x1).toNatClampNeg), .int x3, .ref (mm_rg S a0 7)] S) (fun v S2 => mm_ex (d + 1) 100 83 [.ref a0, .int x1, .int x2, .int x3] (v.toList ++ []) S2) :=
  Eq.trans (mx_aload_n t100 d100_66 (x := a0) rfl) <|
  Eq.trans (mx_getR t100 d100_67 rfl fl11_17 h0 h1) <|
  Eq.trans (mx_getR t100 d100_70 rfl fl11_81 h2 h3) <|
  Eq.trans (mx_iload_n t100 d100_73 (x := x1) rfl) <|
  Eq.trans (mx_qaldR t100 d100_74 h5 h4 h6) <|
  Eq.trans (mx_iload_n t100 d100_75 (x := x3) rfl) <|
  Eq.trans (mx_aload_n t100 d100_76 (x := a0) rfl) <|
  Eq.trans (mx_getR t100 d100_77 rfl fl11_50 h0 h7) <|
  (mx_virt (st := []) (k := 0) t100 [.int x3, .ref (mm_rg S a0 7)] d100_80 vt11_296 rfl rfl (Nat.le_of_ble_eq_true rfl) (Nat.le_of_ble_eq_true rfl) h8)
theorem b100_66_k2 {d : Nat} {S : mm_S} {a0 : Nat} {x1 : Int32} {x2 : Int32} {x3 : Int32} (h0 : mm_obj S a0 11 = true) (h1 : (mm_R S a0 0).isSome = true) (h2 : mm_obj S (mm_rg S a0 0) 1 = true) (h3 : (mm_R S (mm_rg S a0 0) 0).isSome = true) (h4 : mm_inb x1 (mm_N S (mm_rg S (mm_rg S a0 0) 0)) = true) (h5 : (mm_arr S (mm_rg S (mm_rg S a0 0) 0) 16 || mm_arr S (mm_rg S (mm_rg S a0 0) 0) 17 || mm_arr S (mm_rg S (mm_rg S a0 0) 0) 18) = true) (h6 : (mm_R S (mm_rg S (mm_rg S a0 0) 0) (x1).toNatClampNeg).isSome = true) (h7 : (mm_R S a0 7).isSome = true) (h8 : mm_rk S (mm_rg S (mm_rg S (mm_rg S a0 0) 0) (x1).toNatClampNeg) = 2) : mm_ex (d + 1) 100 66 [.ref a0, .int x1, .int x2, .int x3] [] S =
    mm_bd (mm_cl d 4 [.ref (mm_rg S (mm_rg S (mm_rg S a0 0) 0) (x1).toNatClampNeg), .int x3, .ref (mm_rg S a0 7)] S) (fun v S2 => mm_ex (d + 1) 100 83 [.ref a0, .int x1, .int x2, .int x3] (v.toList ++ []) S2) :=
  Eq.trans (mx_aload_n t100 d100_66 (x := a0) rfl) <|
  Eq.trans (mx_getR t100 d100_67 rfl fl11_17 h0 h1) <|
  Eq.trans (mx_getR t100 d100_70 rfl fl11_81 h2 h3) <|
  Eq.trans (mx_iload_n t100 d100_73 (x := x1) rfl) <|
  Eq.trans (mx_qaldR t100 d100_74 h5 h4 h6) <|
  Eq.trans (mx_iload_n t100 d100_75 (x := x3) rfl) <|
  Eq.trans (mx_aload_n t100 d100_76 (x := a0) rfl) <|
  Eq.trans (mx_getR t100 d100_77 rfl fl11_50 h0 h7) <|
  (mx_virt (st := []) (k := 2) t100 [.int x3, .ref (mm_rg S a0 7)] d100_80 vt11_296 rfl rfl (Nat.le_of_ble_eq_true rfl) (Nat.le_of_ble_eq_true rfl) h8)
theorem b100_66_k3 {d : Nat} {S : mm_S} {a0 : Nat} {x1 : Int32} {x2 : Int32} {x3 : Int32} (h0 : mm_obj S a0 11 = true) (h1 : (mm_R S a0 0).isSome = true) (h2 : mm_obj S (mm_rg S a0 0) 1 = true) (h3 : (mm_R S (mm_rg S a0 0) 0).isSome = true) (h4 : mm_inb x1 (mm_N S (mm_rg S (mm_rg S a0 0) 0)) = true) (h5 : (mm_arr S (mm_rg S (mm_rg S a0 0) 0) 16 || mm_arr S (mm_rg S (mm_rg S a0 0) 0) 17 || mm_arr S (mm_rg S (mm_rg S a0 0) 0) 18) = true) (h6 : (mm_R S (mm_rg S (mm_rg S a0 0) 0) (x1).toNatClampNeg).isSome = true) (h7 : (mm_R S a0 7).isSome = true) (h8 : mm_rk S (mm_rg S (mm_rg S (mm_rg S a0 0) 0) (x1).toNatClampNeg) = 3) : mm_ex (d + 1) 100 66 [.ref a0, .int x1, .int x2, .int x3] [] S =
    mm_bd (mm_cl d 4 [.ref (mm_rg S (mm_rg S (mm_rg S a0 0) 0) (x1).toNatClampNeg), .int x3, .ref (mm_rg S a0 7)] S) (fun v S2 => mm_ex (d + 1) 100 83 [.ref a0, .int x1, .int x2, .int x3] (v.toList ++ []) S2) :=
  Eq.trans (mx_aload_n t100 d100_66 (x := a0) rfl) <|
  Eq.trans (mx_getR t100 d100_67 rfl fl11_17 h0 h1) <|
  Eq.trans (mx_getR t100 d100_70 rfl fl11_81 h2 h3) <|
  Eq.trans (mx_iload_n t100 d100_73 (x := x1) rfl) <|
  Eq.trans (mx_qaldR t100 d100_74 h5 h4 h6) <|
  Eq.trans (mx_iload_n t100 d100_75 (x := x3) rfl) <|
  Eq.trans (mx_aload_n t100 d100_76 (x := a0) rfl) <|
  Eq.trans (mx_getR t100 d100_77 rfl fl11_50 h0 h7) <|
  (mx_virt (st := []) (k := 3) t100 [.int x3, .ref (mm_rg S a0 7)] d100_80 vt11_296 rfl rfl (Nat.le_of_ble_eq_true rfl) (Nat.le_of_ble_eq_true rfl) h8)
theorem b100_66_k4 {d : Nat} {S : mm_S} {a0 : Nat} {x1 : Int32} {x2 : Int32} {x3 : Int32} (h0 : mm_obj S a0 11 = true) (h1 : (mm_R S a0 0).isSome = true) (h2 : mm_obj S (mm_rg S a0 0) 1 = true) (h3 : (mm_R S (mm_rg S a0 0) 0).isSome = true) (h4 : mm_inb x1 (mm_N S (mm_rg S (mm_rg S a0 0) 0)) = true) (h5 : (mm_arr S (mm_rg S (mm_rg S a0 0) 0) 16 || mm_arr S (mm_rg S (mm_rg S a0 0) 0) 17 || mm_arr S (mm_rg S (mm_rg S a0 0) 0) 18) = true) (h6 : (mm_R S (mm_rg S (mm_rg S a0 0) 0) (x1).toNatClampNeg).isSome = true) (h7 : (mm_R S a0 7).isSome = true) (h8 : mm_rk S (mm_rg S (mm_rg S (mm_rg S a0 0) 0) (x1).toNatClampNeg) = 4) : mm_ex (d + 1) 100 66 [.ref a0, .int x1, .int x2, .int x3] [] S =
    mm_bd (mm_cl d 33 [.ref (mm_rg S (mm_rg S (mm_rg S a0 0) 0) (x1).toNatClampNeg), .int x3, .ref (mm_rg S a0 7)] S) (fun v S2 => mm_ex (d + 1) 100 83 [.ref a0, .int x1, .int x2, .int x3] (v.toList ++ []) S2) :=
  Eq.trans (mx_aload_n t100 d100_66 (x := a0) rfl) <|
  Eq.trans (mx_getR t100 d100_67 rfl fl11_17 h0 h1) <|
  Eq.trans (mx_getR t100 d100_70 rfl fl11_81 h2 h3) <|
  Eq.trans (mx_iload_n t100 d100_73 (x := x1) rfl) <|
  Eq.trans (mx_qaldR t100 d100_74 h5 h4 h6) <|
  Eq.trans (mx_iload_n t100 d100_75 (x := x3) rfl) <|
  Eq.trans (mx_aload_n t100 d100_76 (x := a0) rfl) <|
  Eq.trans (mx_getR t100 d100_77 rfl fl11_50 h0 h7) <|
  (mx_virt (st := []) (k := 4) t100 [.int x3, .ref (mm_rg S a0 7)] d100_80 vt11_296 rfl rfl (Nat.le_of_ble_eq_true rfl) (Nat.le_of_ble_eq_true rfl) h8)
theorem b100_66_k7 {d : Nat} {S : mm_S} {a0 : Nat} {x1 : Int32} {x2 : Int32} {x3 : Int32} (h0 : mm_obj S a0 11 = true) (h1 : (mm_R S a0 0).isSome = true) (h2 : mm_obj S (mm_rg S a0 0) 1 = true) (h3 : (mm_R S (mm_rg S a0 0) 0).isSome = true) (h4 : mm_inb x1 (mm_N S (mm_rg S (mm_rg S a0 0) 0)) = true) (h5 : (mm_arr S (mm_rg S (mm_rg S a0 0) 0) 16 || mm_arr S (mm_rg S (mm_rg S a0 0) 0) 17 || mm_arr S (mm_rg S (mm_rg S a0 0) 0) 18) = true) (h6 : (mm_R S (mm_rg S (mm_rg S a0 0) 0) (x1).toNatClampNeg).isSome = true) (h7 : (mm_R S a0 7).isSome = true) (h8 : mm_rk S (mm_rg S (mm_rg S (mm_rg S a0 0) 0) (x1).toNatClampNeg) = 7) : mm_ex (d + 1) 100 66 [.ref a0, .int x1, .int x2, .int x3] [] S =
    mm_bd (mm_cl d 58 [.ref (mm_rg S (mm_rg S (mm_rg S a0 0) 0) (x1).toNatClampNeg), .int x3, .ref (mm_rg S a0 7)] S) (fun v S2 => mm_ex (d + 1) 100 83 [.ref a0, .int x1, .int x2, .int x3] (v.toList ++ []) S2) :=
  Eq.trans (mx_aload_n t100 d100_66 (x := a0) rfl) <|
  Eq.trans (mx_getR t100 d100_67 rfl fl11_17 h0 h1) <|
  Eq.trans (mx_getR t100 d100_70 rfl fl11_81 h2 h3) <|
  Eq.trans (mx_iload_n t100 d100_73 (x := x1) rfl) <|
  Eq.trans (mx_qaldR t100 d100_74 h5 h4 h6) <|
  Eq.trans (mx_iload_n t100 d100_75 (x := x3) rfl) <|
  Eq.trans (mx_aload_n t100 d100_76 (x := a0) rfl) <|
  Eq.trans (mx_getR t100 d100_77 rfl fl11_50 h0 h7) <|
  (mx_virt (st := []) (k := 7) t100 [.int x3, .ref (mm_rg S a0 7)] d100_80 vt11_296 rfl rfl (Nat.le_of_ble_eq_true rfl) (Nat.le_of_ble_eq_true rfl) h8)
theorem b100_66_k9 {d : Nat} {S : mm_S} {a0 : Nat} {x1 : Int32} {x2 : Int32} {x3 : Int32} (h0 : mm_obj S a0 11 = true) (h1 : (mm_R S a0 0).isSome = true) (h2 : mm_obj S (mm_rg S a0 0) 1 = true) (h3 : (mm_R S (mm_rg S a0 0) 0).isSome = true) (h4 : mm_inb x1 (mm_N S (mm_rg S (mm_rg S a0 0) 0)) = true) (h5 : (mm_arr S (mm_rg S (mm_rg S a0 0) 0) 16 || mm_arr S (mm_rg S (mm_rg S a0 0) 0) 17 || mm_arr S (mm_rg S (mm_rg S a0 0) 0) 18) = true) (h6 : (mm_R S (mm_rg S (mm_rg S a0 0) 0) (x1).toNatClampNeg).isSome = true) (h7 : (mm_R S a0 7).isSome = true) (h8 : mm_rk S (mm_rg S (mm_rg S (mm_rg S a0 0) 0) (x1).toNatClampNeg) = 9) : mm_ex (d + 1) 100 66 [.ref a0, .int x1, .int x2, .int x3] [] S =
    mm_bd (mm_cl d 67 [.ref (mm_rg S (mm_rg S (mm_rg S a0 0) 0) (x1).toNatClampNeg), .int x3, .ref (mm_rg S a0 7)] S) (fun v S2 => mm_ex (d + 1) 100 83 [.ref a0, .int x1, .int x2, .int x3] (v.toList ++ []) S2) :=
  Eq.trans (mx_aload_n t100 d100_66 (x := a0) rfl) <|
  Eq.trans (mx_getR t100 d100_67 rfl fl11_17 h0 h1) <|
  Eq.trans (mx_getR t100 d100_70 rfl fl11_81 h2 h3) <|
  Eq.trans (mx_iload_n t100 d100_73 (x := x1) rfl) <|
  Eq.trans (mx_qaldR t100 d100_74 h5 h4 h6) <|
  Eq.trans (mx_iload_n t100 d100_75 (x := x3) rfl) <|
  Eq.trans (mx_aload_n t100 d100_76 (x := a0) rfl) <|
  Eq.trans (mx_getR t100 d100_77 rfl fl11_50 h0 h7) <|
  (mx_virt (st := []) (k := 9) t100 [.int x3, .ref (mm_rg S a0 7)] d100_80 vt11_296 rfl rfl (Nat.le_of_ble_eq_true rfl) (Nat.le_of_ble_eq_true rfl) h8)
theorem b100_66_k10 {d : Nat} {S : mm_S} {a0 : Nat} {x1 : Int32} {x2 : Int32} {x3 : Int32} (h0 : mm_obj S a0 11 = true) (h1 : (mm_R S a0 0).isSome = true) (h2 : mm_obj S (mm_rg S a0 0) 1 = true) (h3 : (mm_R S (mm_rg S a0 0) 0).isSome = true) (h4 : mm_inb x1 (mm_N S (mm_rg S (mm_rg S a0 0) 0)) = true) (h5 : (mm_arr S (mm_rg S (mm_rg S a0 0) 0) 16 || mm_arr S (mm_rg S (mm_rg S a0 0) 0) 17 || mm_arr S (mm_rg S (mm_rg S a0 0) 0) 18) = true) (h6 : (mm_R S (mm_rg S (mm_rg S a0 0) 0) (x1).toNatClampNeg).isSome = true) (h7 : (mm_R S a0 7).isSome = true) (h8 : mm_rk S (mm_rg S (mm_rg S (mm_rg S a0 0) 0) (x1).toNatClampNeg) = 10) : mm_ex (d + 1) 100 66 [.ref a0, .int x1, .int x2, .int x3] [] S =
    mm_bd (mm_cl d 4 [.ref (mm_rg S (mm_rg S (mm_rg S a0 0) 0) (x1).toNatClampNeg), .int x3, .ref (mm_rg S a0 7)] S) (fun v S2 => mm_ex (d + 1) 100 83 [.ref a0, .int x1, .int x2, .int x3] (v.toList ++ []) S2) :=
  Eq.trans (mx_aload_n t100 d100_66 (x := a0) rfl) <|
  Eq.trans (mx_getR t100 d100_67 rfl fl11_17 h0 h1) <|
  Eq.trans (mx_getR t100 d100_70 rfl fl11_81 h2 h3) <|
  Eq.trans (mx_iload_n t100 d100_73 (x := x1) rfl) <|
  Eq.trans (mx_qaldR t100 d100_74 h5 h4 h6) <|
  Eq.trans (mx_iload_n t100 d100_75 (x := x3) rfl) <|
  Eq.trans (mx_aload_n t100 d100_76 (x := a0) rfl) <|
  Eq.trans (mx_getR t100 d100_77 rfl fl11_50 h0 h7) <|
  (mx_virt (st := []) (k := 10) t100 [.int x3, .ref (mm_rg S a0 7)] d100_80 vt11_296 rfl rfl (Nat.le_of_ble_eq_true rfl) (Nat.le_of_ble_eq_true rfl) h8)
theorem b100_83 {d : Nat} {S : mm_S} {a0 : Nat} {x1 : Int32} {x2 : Int32} {x3 : Int32} {p0 : Int32} : mm_ex d 100 83 [.ref a0, .int x1, .int x2, .int x3] [.int p0] S =
    some (some (.int p0), S) :=
  (mx_iret t100 d100_83 (ty := .int) rfl rfl (fun h => nomatch h))
theorem b100_84_k0 {d : Nat} {S : mm_S} {a0 : Nat} {x1 : Int32} {x2 : Int32} {x3 : Int32} (h0 : mm_obj S a0 11 = true) (h1 : (mm_R S a0 0).isSome = true) (h2 : mm_obj S (mm_rg S a0 0) 1 = true) (h3 : (mm_R S (mm_rg S a0 0) 0).isSome = true) (h4 : mm_inb x1 (mm_N S (mm_rg S (mm_rg S a0 0) 0)) = true) (h5 : (mm_arr S (mm_rg S (mm_rg S a0 0) 0) 16 || mm_arr S (mm_rg S (mm_rg S a0 0) 0) 17 || mm_arr S (mm_rg S (mm_rg S a0 0) 0) 18) = true) (h6 : (mm_R S (mm_rg S (mm_rg S a0 0) 0) (x1).toNatClampNeg).isSome = true) (h7 : (mm_R S a0 7).isSome = true) (h8 : mm_rk S (mm_rg S (mm_rg S (mm_rg S a0 0) 0) (x1).toNatClampNeg) = 0) : mm_ex (d + 1) 100 84 [.ref a0, .int x1, .int x2, .int x3] [] S =
    mm_bd (mm_cl d 5 [.ref (mm_rg S (mm_rg S (mm_rg S a0 0) 0) (x1).toNatClampNeg), .int x3, .ref (mm_rg S a0 7)] S) (fun v S2 => mm_ex (d + 1) 100 101 [.ref a0, .int x1, .int x2, .int x3] (v.toList ++ []) S2) :=
  Eq.trans (mx_aload_n t100 d100_84 (x := a0) rfl) <|
  Eq.trans (mx_getR t100 d100_85 rfl fl11_17 h0 h1) <|
  Eq.trans (mx_getR t100 d100_88 rfl fl11_81 h2 h3) <|
  Eq.trans (mx_iload_n t100 d100_91 (x := x1) rfl) <|
  Eq.trans (mx_qaldR t100 d100_92 h5 h4 h6) <|
  Eq.trans (mx_iload_n t100 d100_93 (x := x3) rfl) <|
  Eq.trans (mx_aload_n t100 d100_94 (x := a0) rfl) <|
  Eq.trans (mx_getR t100 d100_95 rfl fl11_50 h0 h7) <|
  (mx_virt (st := []) (k := 0) t100 [.int x3, .ref (mm_rg S a0 7)] d100_98 vt11_299 rfl rfl (Nat.le_of_ble_eq_true rfl) (Nat.le_of_ble_eq_true rfl) h8)
theorem b100_84_k2 {d : Nat} {S : mm_S} {a0 : Nat} {x1 : Int32} {x2 : Int32} {x3 : Int32} (h0 : mm_obj S a0 11 = true) (h1 : (mm_R S a0 0).isSome = true) (h2 : mm_obj S (mm_rg S a0 0) 1 = true) (h3 : (mm_R S (mm_rg S a0 0) 0).isSome = true) (h4 : mm_inb x1 (mm_N S (mm_rg S (mm_rg S a0 0) 0)) = true) (h5 : (mm_arr S (mm_rg S (mm_rg S a0 0) 0) 16 || mm_arr S (mm_rg S (mm_rg S a0 0) 0) 17 || mm_arr S (mm_rg S (mm_rg S a0 0) 0) 18) = true) (h6 : (mm_R S (mm_rg S (mm_rg S a0 0) 0) (x1).toNatClampNeg).isSome = true) (h7 : (mm_R S a0 7).isSome = true) (h8 : mm_rk S (mm_rg S (mm_rg S (mm_rg S a0 0) 0) (x1).toNatClampNeg) = 2) : mm_ex (d + 1) 100 84 [.ref a0, .int x1, .int x2, .int x3] [] S =
    mm_bd (mm_cl d 27 [.ref (mm_rg S (mm_rg S (mm_rg S a0 0) 0) (x1).toNatClampNeg), .int x3, .ref (mm_rg S a0 7)] S) (fun v S2 => mm_ex (d + 1) 100 101 [.ref a0, .int x1, .int x2, .int x3] (v.toList ++ []) S2) :=
  Eq.trans (mx_aload_n t100 d100_84 (x := a0) rfl) <|
  Eq.trans (mx_getR t100 d100_85 rfl fl11_17 h0 h1) <|
  Eq.trans (mx_getR t100 d100_88 rfl fl11_81 h2 h3) <|
  Eq.trans (mx_iload_n t100 d100_91 (x := x1) rfl) <|
  Eq.trans (mx_qaldR t100 d100_92 h5 h4 h6) <|
  Eq.trans (mx_iload_n t100 d100_93 (x := x3) rfl) <|
  Eq.trans (mx_aload_n t100 d100_94 (x := a0) rfl) <|
  Eq.trans (mx_getR t100 d100_95 rfl fl11_50 h0 h7) <|
  (mx_virt (st := []) (k := 2) t100 [.int x3, .ref (mm_rg S a0 7)] d100_98 vt11_299 rfl rfl (Nat.le_of_ble_eq_true rfl) (Nat.le_of_ble_eq_true rfl) h8)
theorem b100_84_k3 {d : Nat} {S : mm_S} {a0 : Nat} {x1 : Int32} {x2 : Int32} {x3 : Int32} (h0 : mm_obj S a0 11 = true) (h1 : (mm_R S a0 0).isSome = true) (h2 : mm_obj S (mm_rg S a0 0) 1 = true) (h3 : (mm_R S (mm_rg S a0 0) 0).isSome = true) (h4 : mm_inb x1 (mm_N S (mm_rg S (mm_rg S a0 0) 0)) = true) (h5 : (mm_arr S (mm_rg S (mm_rg S a0 0) 0) 16 || mm_arr S (mm_rg S (mm_rg S a0 0) 0) 17 || mm_arr S (mm_rg S (mm_rg S a0 0) 0) 18) = true) (h6 : (mm_R S (mm_rg S (mm_rg S a0 0) 0) (x1).toNatClampNeg).isSome = true) (h7 : (mm_R S a0 7).isSome = true) (h8 : mm_rk S (mm_rg S (mm_rg S (mm_rg S a0 0) 0) (x1).toNatClampNeg) = 3) : mm_ex (d + 1) 100 84 [.ref a0, .int x1, .int x2, .int x3] [] S =
    mm_bd (mm_cl d 30 [.ref (mm_rg S (mm_rg S (mm_rg S a0 0) 0) (x1).toNatClampNeg), .int x3, .ref (mm_rg S a0 7)] S) (fun v S2 => mm_ex (d + 1) 100 101 [.ref a0, .int x1, .int x2, .int x3] (v.toList ++ []) S2) :=
  Eq.trans (mx_aload_n t100 d100_84 (x := a0) rfl) <|
  Eq.trans (mx_getR t100 d100_85 rfl fl11_17 h0 h1) <|
  Eq.trans (mx_getR t100 d100_88 rfl fl11_81 h2 h3) <|
  Eq.trans (mx_iload_n t100 d100_91 (x := x1) rfl) <|
  Eq.trans (mx_qaldR t100 d100_92 h5 h4 h6) <|
  Eq.trans (mx_iload_n t100 d100_93 (x := x3) rfl) <|
  Eq.trans (mx_aload_n t100 d100_94 (x := a0) rfl) <|
  Eq.trans (mx_getR t100 d100_95 rfl fl11_50 h0 h7) <|
  (mx_virt (st := []) (k := 3) t100 [.int x3, .ref (mm_rg S a0 7)] d100_98 vt11_299 rfl rfl (Nat.le_of_ble_eq_true rfl) (Nat.le_of_ble_eq_true rfl) h8)
theorem b100_84_k4 {d : Nat} {S : mm_S} {a0 : Nat} {x1 : Int32} {x2 : Int32} {x3 : Int32} (h0 : mm_obj S a0 11 = true) (h1 : (mm_R S a0 0).isSome = true) (h2 : mm_obj S (mm_rg S a0 0) 1 = true) (h3 : (mm_R S (mm_rg S a0 0) 0).isSome = true) (h4 : mm_inb x1 (mm_N S (mm_rg S (mm_rg S a0 0) 0)) = true) (h5 : (mm_arr S (mm_rg S (mm_rg S a0 0) 0) 16 || mm_arr S (mm_rg S (mm_rg S a0 0) 0) 17 || mm_arr S (mm_rg S (mm_rg S a0 0) 0) 18) = true) (h6 : (mm_R S (mm_rg S (mm_rg S a0 0) 0) (x1).toNatClampNeg).isSome = true) (h7 : (mm_R S a0 7).isSome = true) (h8 : mm_rk S (mm_rg S (mm_rg S (mm_rg S a0 0) 0) (x1).toNatClampNeg) = 4) : mm_ex (d + 1) 100 84 [.ref a0, .int x1, .int x2, .int x3] [] S =
    mm_bd (mm_cl d 5 [.ref (mm_rg S (mm_rg S (mm_rg S a0 0) 0) (x1).toNatClampNeg), .int x3, .ref (mm_rg S a0 7)] S) (fun v S2 => mm_ex (d + 1) 100 101 [.ref a0, .int x1, .int x2, .int x3] (v.toList ++ []) S2) :=
  Eq.trans (mx_aload_n t100 d100_84 (x := a0) rfl) <|
  Eq.trans (mx_getR t100 d100_85 rfl fl11_17 h0 h1) <|
  Eq.trans (mx_getR t100 d100_88 rfl fl11_81 h2 h3) <|
  Eq.trans (mx_iload_n t100 d100_91 (x := x1) rfl) <|
  Eq.trans (mx_qaldR t100 d100_92 h5 h4 h6) <|
  Eq.trans (mx_iload_n t100 d100_93 (x := x3) rfl) <|
  Eq.trans (mx_aload_n t100 d100_94 (x := a0) rfl) <|
  Eq.trans (mx_getR t100 d100_95 rfl fl11_50 h0 h7) <|
  (mx_virt (st := []) (k := 4) t100 [.int x3, .ref (mm_rg S a0 7)] d100_98 vt11_299 rfl rfl (Nat.le_of_ble_eq_true rfl) (Nat.le_of_ble_eq_true rfl) h8)
theorem b100_84_k7 {d : Nat} {S : mm_S} {a0 : Nat} {x1 : Int32} {x2 : Int32} {x3 : Int32} (h0 : mm_obj S a0 11 = true) (h1 : (mm_R S a0 0).isSome = true) (h2 : mm_obj S (mm_rg S a0 0) 1 = true) (h3 : (mm_R S (mm_rg S a0 0) 0).isSome = true) (h4 : mm_inb x1 (mm_N S (mm_rg S (mm_rg S a0 0) 0)) = true) (h5 : (mm_arr S (mm_rg S (mm_rg S a0 0) 0) 16 || mm_arr S (mm_rg S (mm_rg S a0 0) 0) 17 || mm_arr S (mm_rg S (mm_rg S a0 0) 0) 18) = true) (h6 : (mm_R S (mm_rg S (mm_rg S a0 0) 0) (x1).toNatClampNeg).isSome = true) (h7 : (mm_R S a0 7).isSome = true) (h8 : mm_rk S (mm_rg S (mm_rg S (mm_rg S a0 0) 0) (x1).toNatClampNeg) = 7) : mm_ex (d + 1) 100 84 [.ref a0, .int x1, .int x2, .int x3] [] S =
    mm_bd (mm_cl d 5 [.ref (mm_rg S (mm_rg S (mm_rg S a0 0) 0) (x1).toNatClampNeg), .int x3, .ref (mm_rg S a0 7)] S) (fun v S2 => mm_ex (d + 1) 100 101 [.ref a0, .int x1, .int x2, .int x3] (v.toList ++ []) S2) :=
  Eq.trans (mx_aload_n t100 d100_84 (x := a0) rfl) <|
  Eq.trans (mx_getR t100 d100_85 rfl fl11_17 h0 h1) <|
  Eq.trans (mx_getR t100 d100_88 rfl fl11_81 h2 h3) <|
  Eq.trans (mx_iload_n t100 d100_91 (x := x1) rfl) <|
  Eq.trans (mx_qaldR t100 d100_92 h5 h4 h6) <|
  Eq.trans (mx_iload_n t100 d100_93 (x := x3) rfl) <|
  Eq.trans (mx_aload_n t100 d100_94 (x := a0) rfl) <|
  Eq.trans (mx_getR t100 d100_95 rfl fl11_50 h0 h7) <|
  (mx_virt (st := []) (k := 7) t100 [.int x3, .ref (mm_rg S a0 7)] d100_98 vt11_299 rfl rfl (Nat.le_of_ble_eq_true rfl) (Nat.le_of_ble_eq_true rfl) h8)
theorem b100_84_k9 {d : Nat} {S : mm_S} {a0 : Nat} {x1 : Int32} {x2 : Int32} {x3 : Int32} (h0 : mm_obj S a0 11 = true) (h1 : (mm_R S a0 0).isSome = true) (h2 : mm_obj S (mm_rg S a0 0) 1 = true) (h3 : (mm_R S (mm_rg S a0 0) 0).isSome = true) (h4 : mm_inb x1 (mm_N S (mm_rg S (mm_rg S a0 0) 0)) = true) (h5 : (mm_arr S (mm_rg S (mm_rg S a0 0) 0) 16 || mm_arr S (mm_rg S (mm_rg S a0 0) 0) 17 || mm_arr S (mm_rg S (mm_rg S a0 0) 0) 18) = true) (h6 : (mm_R S (mm_rg S (mm_rg S a0 0) 0) (x1).toNatClampNeg).isSome = true) (h7 : (mm_R S a0 7).isSome = true) (h8 : mm_rk S (mm_rg S (mm_rg S (mm_rg S a0 0) 0) (x1).toNatClampNeg) = 9) : mm_ex (d + 1) 100 84 [.ref a0, .int x1, .int x2, .int x3] [] S =
    mm_bd (mm_cl d 27 [.ref (mm_rg S (mm_rg S (mm_rg S a0 0) 0) (x1).toNatClampNeg), .int x3, .ref (mm_rg S a0 7)] S) (fun v S2 => mm_ex (d + 1) 100 101 [.ref a0, .int x1, .int x2, .int x3] (v.toList ++ []) S2) :=
  Eq.trans (mx_aload_n t100 d100_84 (x := a0) rfl) <|
  Eq.trans (mx_getR t100 d100_85 rfl fl11_17 h0 h1) <|
  Eq.trans (mx_getR t100 d100_88 rfl fl11_81 h2 h3) <|
  Eq.trans (mx_iload_n t100 d100_91 (x := x1) rfl) <|
  Eq.trans (mx_qaldR t100 d100_92 h5 h4 h6) <|
  Eq.trans (mx_iload_n t100 d100_93 (x := x3) rfl) <|
  Eq.trans (mx_aload_n t100 d100_94 (x := a0) rfl) <|
  Eq.trans (mx_getR t100 d100_95 rfl fl11_50 h0 h7) <|
  (mx_virt (st := []) (k := 9) t100 [.int x3, .ref (mm_rg S a0 7)] d100_98 vt11_299 rfl rfl (Nat.le_of_ble_eq_true rfl) (Nat.le_of_ble_eq_true rfl) h8)
theorem b100_84_k10 {d : Nat} {S : mm_S} {a0 : Nat} {x1 : Int32} {x2 : Int32} {x3 : Int32} (h0 : mm_obj S a0 11 = true) (h1 : (mm_R S a0 0).isSome = true) (h2 : mm_obj S (mm_rg S a0 0) 1 = true) (h3 : (mm_R S (mm_rg S a0 0) 0).isSome = true) (h4 : mm_inb x1 (mm_N S (mm_rg S (mm_rg S a0 0) 0)) = true) (h5 : (mm_arr S (mm_rg S (mm_rg S a0 0) 0) 16 || mm_arr S (mm_rg S (mm_rg S a0 0) 0) 17 || mm_arr S (mm_rg S (mm_rg S a0 0) 0) 18) = true) (h6 : (mm_R S (mm_rg S (mm_rg S a0 0) 0) (x1).toNatClampNeg).isSome = true) (h7 : (mm_R S a0 7).isSome = true) (h8 : mm_rk S (mm_rg S (mm_rg S (mm_rg S a0 0) 0) (x1).toNatClampNeg) = 10) : mm_ex (d + 1) 100 84 [.ref a0, .int x1, .int x2, .int x3] [] S =
    mm_bd (mm_cl d 5 [.ref (mm_rg S (mm_rg S (mm_rg S a0 0) 0) (x1).toNatClampNeg), .int x3, .ref (mm_rg S a0 7)] S) (fun v S2 => mm_ex (d + 1) 100 101 [.ref a0, .int x1, .int x2, .int x3] (v.toList ++ []) S2) :=
  Eq.trans (mx_aload_n t100 d100_84 (x := a0) rfl) <|
  Eq.trans (mx_getR t100 d100_85 rfl fl11_17 h0 h1) <|
  Eq.trans (mx_getR t100 d100_88 rfl fl11_81 h2 h3) <|
  Eq.trans (mx_iload_n t100 d100_91 (x := x1) rfl) <|
  Eq.trans (mx_qaldR t100 d100_92 h5 h4 h6) <|
  Eq.trans (mx_iload_n t100 d100_93 (x := x3) rfl) <|
  Eq.trans (mx_aload_n t100 d100_94 (x := a0) rfl) <|
  Eq.trans (mx_getR t100 d100_95 rfl fl11_50 h0 h7) <|
  (mx_virt (st := []) (k := 10) t100 [.int x3, .ref (mm_rg S a0 7)] d100_98 vt11_299 rfl rfl (Nat.le_of_ble_eq_true rfl) (Nat.le_of_ble_eq_true rfl) h8)
theorem b100_101 {d : Nat} {S : mm_S} {a0 : Nat} {x1 : Int32} {x2 : Int32} {x3 : Int32} {p0 : Int32} : mm_ex d 100 101 [.ref a0, .int x1, .int x2, .int x3] [.int p0] S =
    some (some (.int p0), S) :=
  (mx_iret t100 d100_101 (ty := .int) rfl rfl (fun h => nomatch h))
theorem b100_102 {d : Nat} {S : mm_S} {a0 : Nat} {x1 : Int32} {x2 : Int32} {x3 : Int32} : mm_ex d 100 102 [.ref a0, .int x1, .int x2, .int x3] [] S =
    some (some (.int (nI 0)), S) :=
  Eq.trans (mx_iconst t100 d100_102 (v := nI 0) rfl) <|
  (mx_iret t100 d100_103 (ty := .int) rfl rfl (fun h => nomatch h))
theorem e100 {d : Nat} {S : mm_S} {a0 : Nat} {x1 : Int32} {x2 : Int32} {x3 : Int32} : mm_cl d 100 [.ref a0, .int x1, .int x2, .int x3] S = mm_ex d 100 0 [.ref a0, .int x1, .int x2, .int x3] [] S := mm_cl_eq t100 (Nat.le_of_ble_eq_true rfl) rfl
/-! X11_trace -/
theorem d101_0 : decode prog_1_method_30_code 0 = .ok (.iload_n 1, 1) := by decide +kernel
theorem d101_1 : decode prog_1_method_30_code 1 = .ok (.ifCond .lt 29, 3) := by decide +kernel
theorem d101_4 : decode prog_1_method_30_code 4 = .ok (.iload_n 1, 1) := by decide +kernel
theorem d101_5 : decode prog_1_method_30_code 5 = .ok (.aload_n 0, 1) := by decide +kernel
theorem d101_6 : decode prog_1_method_30_code 6 = .ok (.getfield 50, 3) := by decide +kernel
theorem d101_9 : decode prog_1_method_30_code 9 = .ok (.iconst 0, 1) := by decide +kernel
theorem d101_10 : decode prog_1_method_30_code 10 = .ok (.iaload, 1) := by decide +kernel
theorem d101_11 : decode prog_1_method_30_code 11 = .ok (.bipush 20, 2) := by decide +kernel
theorem d101_13 : decode prog_1_method_30_code 13 = .ok (.invokestatic 248, 3) := by decide +kernel
theorem d101_16 : decode prog_1_method_30_code 16 = .ok (.if_icmp .ge 14, 3) := by decide +kernel
theorem d101_19 : decode prog_1_method_30_code 19 = .ok (.aload_n 0, 1) := by decide +kernel
theorem d101_20 : decode prog_1_method_30_code 20 = .ok (.getfield 50, 3) := by decide +kernel
theorem d101_23 : decode prog_1_method_30_code 23 = .ok (.iconst 1, 1) := by decide +kernel
theorem d101_24 : decode prog_1_method_30_code 24 = .ok (.iload_n 1, 1) := by decide +kernel
theorem d101_25 : decode prog_1_method_30_code 25 = .ok (.iadd, 1) := by decide +kernel
theorem d101_26 : decode prog_1_method_30_code 26 = .ok (.iaload, 1) := by decide +kernel
theorem d101_27 : decode prog_1_method_30_code 27 = .ok (.goto 4, 3) := by decide +kernel
theorem d101_30 : decode prog_1_method_30_code 30 = .ok (.iconst (-1), 1) := by decide +kernel
theorem d101_31 : decode prog_1_method_30_code 31 = .ok (.ireturn, 1) := by decide +kernel
theorem b101_0 {d : Nat} {S : mm_S} {a0 : Nat} {x1 : Int32} : mm_ex d 101 0 [.ref a0, .int x1] [] S =
    if x1 < nI 0 then mm_ex d 101 30 [.ref a0, .int x1] [] S else mm_ex d 101 4 [.ref a0, .int x1] [] S :=
  Eq.trans (mx_iload_n t101 d101_0 (x := x1) rfl) <|
  (mx_ilt t101 d101_1 (tgt := 30) (by decide))
theorem b101_4 {d : Nat} {S : mm_S} {a0 : Nat} {x1 : Int32} (h0 : mm_obj S a0 11 = true) (h1 : (mm_R S a0 7).isSome = true) (h2 : mm_inb (nI 0) (mm_N S (mm_rg S a0 7)) = true) (h3 : mm_arr S (mm_rg S a0 7) 13 = true) : mm_ex (d + 1) 101 4 [.ref a0, .int x1] [] S =
    if (if (nI 20) < (mm_M S (mm_rg S a0 7) (nI 0).toNatClampNeg) then (nI 20) else (mm_M S (mm_rg S a0 7) (nI 0).toNatClampNeg)) ≤ x1 then mm_ex (d + 1) 101 30 [.ref a0, .int x1] [] S else mm_ex (d + 1) 101 19 [.ref a0, .int x1] [] S :=
  Eq.trans (mx_iload_n t101 d101_4 (x := x1) rfl) <|
  Eq.trans (mx_aload_n t101 d101_5 (x := a0) rfl) <|
  Eq.trans (mx_getR t101 d101_6 rfl fl11_50 h0 h1) <|
  Eq.trans (mx_iconst t101 d101_9 (v := nI 0) rfl) <|
  Eq.trans (mx_iald t101 d101_10 h3 h2) <|
  Eq.trans (mx_bipush t101 d101_11 (v := nI 20) rfl) <|
  Eq.trans (mx_math t101 d101_13 (k := 0) acn11_248 mxx11_248 (Nat.le_of_ble_eq_true rfl)) <|
  (mx_cge t101 d101_16 (tgt := 30) (by decide))
theorem b101_19 {d : Nat} {S : mm_S} {a0 : Nat} {x1 : Int32} (h0 : mm_obj S a0 11 = true) (h1 : (mm_R S a0 7).isSome = true) (h2 : mm_inb ((nI 1) + x1) (mm_N S (mm_rg S a0 7)) = true) (h3 : mm_arr S (mm_rg S a0 7) 13 = true) : mm_ex d 101 19 [.ref a0, .int x1] [] S =
    some (some (.int (mm_M S (mm_rg S a0 7) ((nI 1) + x1).toNatClampNeg)), S) :=
  Eq.trans (mx_aload_n t101 d101_19 (x := a0) rfl) <|
  Eq.trans (mx_getR t101 d101_20 rfl fl11_50 h0 h1) <|
  Eq.trans (mx_iconst t101 d101_23 (v := nI 1) rfl) <|
  Eq.trans (mx_iload_n t101 d101_24 (x := x1) rfl) <|
  Eq.trans (mx_iadd t101 d101_25) <|
  Eq.trans (mx_iald t101 d101_26 h3 h2) <|
  Eq.trans (mx_goto t101 d101_27 (tgt := 31) (by decide)) <|
  (mx_iret t101 d101_31 (ty := .int) rfl rfl (fun h => nomatch h))
theorem b101_30 {d : Nat} {S : mm_S} {a0 : Nat} {x1 : Int32} : mm_ex d 101 30 [.ref a0, .int x1] [] S =
    some (some (.int (-1)), S) :=
  Eq.trans (mx_iconst t101 d101_30 (v := -1) rfl) <|
  (mx_iret t101 d101_31 (ty := .int) rfl rfl (fun h => nomatch h))
theorem e101 {d : Nat} {S : mm_S} {a0 : Nat} {x1 : Int32} : mm_cl d 101 [.ref a0, .int x1] S = mm_ex d 101 0 [.ref a0, .int x1] [] S := mm_cl_eq t101 (Nat.le_of_ble_eq_true rfl) rfl
/-! X11_taken -/
theorem dd102_0 : (decode prog_1_method_31_code 0 = .ok (.iload_n 2, 1)) ∧ (decode prog_1_method_31_code 1 = .ok (.ifCond .lt 9, 3)) ∧ (decode prog_1_method_31_code 4 = .ok (.iload_n 2, 1)) ∧ (decode prog_1_method_31_code 5 = .ok (.bipush 6, 2)) ∧ (decode prog_1_method_31_code 7 = .ok (.if_icmp .le 6, 3)) ∧ (decode prog_1_method_31_code 10 = .ok (.bipush (-2), 2)) ∧ (decode prog_1_method_31_code 12 = .ok (.ireturn, 1)) ∧ (decode prog_1_method_31_code 13 = .ok (.aload_n 0, 1)) ∧ (decode prog_1_method_31_code 14 = .ok (.getfield 17, 3)) ∧ (decode prog_1_method_31_code 17 = .ok (.iload_n 1, 1)) ∧ (decode prog_1_method_31_code 18 = .ok (.invokevirtual 77, 3)) ∧ (decode prog_1_method_31_code 21 = .ok (.ifCond .ne 6, 3)) ∧ (decode prog_1_method_31_code 24 = .ok (.bipush (-11), 2)) ∧ (decode prog_1_method_31_code 26 = .ok (.ireturn, 1)) ∧ (decode prog_1_method_31_code 27 = .ok (.aload_n 0, 1)) ∧ (decode prog_1_method_31_code 28 = .ok (.getfield 17, 3)) := by decide +kernel
theorem d102_0 : decode prog_1_method_31_code 0 = .ok (.iload_n 2, 1) := dd102_0.1
theorem d102_1 : decode prog_1_method_31_code 1 = .ok (.ifCond .lt 9, 3) := dd102_0.2.1
theorem d102_4 : decode prog_1_method_31_code 4 = .ok (.iload_n 2, 1) := dd102_0.2.2.1
theorem d102_5 : decode prog_1_method_31_code 5 = .ok (.bipush 6, 2) := dd102_0.2.2.2.1
theorem d102_7 : decode prog_1_method_31_code 7 = .ok (.if_icmp .le 6, 3) := dd102_0.2.2.2.2.1
theorem d102_10 : decode prog_1_method_31_code 10 = .ok (.bipush (-2), 2) := dd102_0.2.2.2.2.2.1
theorem d102_12 : decode prog_1_method_31_code 12 = .ok (.ireturn, 1) := dd102_0.2.2.2.2.2.2.1
theorem d102_13 : decode prog_1_method_31_code 13 = .ok (.aload_n 0, 1) := dd102_0.2.2.2.2.2.2.2.1
theorem d102_14 : decode prog_1_method_31_code 14 = .ok (.getfield 17, 3) := dd102_0.2.2.2.2.2.2.2.2.1
theorem d102_17 : decode prog_1_method_31_code 17 = .ok (.iload_n 1, 1) := dd102_0.2.2.2.2.2.2.2.2.2.1
theorem d102_18 : decode prog_1_method_31_code 18 = .ok (.invokevirtual 77, 3) := dd102_0.2.2.2.2.2.2.2.2.2.2.1
theorem d102_21 : decode prog_1_method_31_code 21 = .ok (.ifCond .ne 6, 3) := dd102_0.2.2.2.2.2.2.2.2.2.2.2.1
theorem d102_24 : decode prog_1_method_31_code 24 = .ok (.bipush (-11), 2) := dd102_0.2.2.2.2.2.2.2.2.2.2.2.2.1
theorem d102_26 : decode prog_1_method_31_code 26 = .ok (.ireturn, 1) := dd102_0.2.2.2.2.2.2.2.2.2.2.2.2.2.1
theorem d102_27 : decode prog_1_method_31_code 27 = .ok (.aload_n 0, 1) := dd102_0.2.2.2.2.2.2.2.2.2.2.2.2.2.2.1
theorem d102_28 : decode prog_1_method_31_code 28 = .ok (.getfield 17, 3) := dd102_0.2.2.2.2.2.2.2.2.2.2.2.2.2.2.2
theorem dd102_31 : (decode prog_1_method_31_code 31 = .ok (.getfield 81, 3)) ∧ (decode prog_1_method_31_code 34 = .ok (.iload_n 1, 1)) ∧ (decode prog_1_method_31_code 35 = .ok (.aaload, 1)) ∧ (decode prog_1_method_31_code 36 = .ok (.astore_n 3, 1)) ∧ (decode prog_1_method_31_code 37 = .ok (.aload_n 3, 1)) ∧ (decode prog_1_method_31_code 38 = .ok (.iload_n 2, 1)) ∧ (decode prog_1_method_31_code 39 = .ok (.invokestatic 301, 3)) ∧ (decode prog_1_method_31_code 42 = .ok (.ifCond .eq 10, 3)) ∧ (decode prog_1_method_31_code 45 = .ok (.aload_n 3, 1)) ∧ (decode prog_1_method_31_code 46 = .ok (.getfield 85, 3)) ∧ (decode prog_1_method_31_code 49 = .ok (.goto 5, 3)) ∧ (decode prog_1_method_31_code 52 = .ok (.bipush (-12), 2)) ∧ (decode prog_1_method_31_code 54 = .ok (.ireturn, 1)) := by decide +kernel
theorem d102_31 : decode prog_1_method_31_code 31 = .ok (.getfield 81, 3) := dd102_31.1
theorem d102_34 : decode prog_1_method_31_code 34 = .ok (.iload_n 1, 1) := dd102_31.2.1
theorem d102_35 : decode prog_1_method_31_code 35 = .ok (.aaload, 1) := dd102_31.2.2.1
theorem d102_36 : decode prog_1_method_31_code 36 = .ok (.astore_n 3, 1) := dd102_31.2.2.2.1
theorem d102_37 : decode prog_1_method_31_code 37 = .ok (.aload_n 3, 1) := dd102_31.2.2.2.2.1
theorem d102_38 : decode prog_1_method_31_code 38 = .ok (.iload_n 2, 1) := dd102_31.2.2.2.2.2.1
theorem d102_39 : decode prog_1_method_31_code 39 = .ok (.invokestatic 301, 3) := dd102_31.2.2.2.2.2.2.1
theorem d102_42 : decode prog_1_method_31_code 42 = .ok (.ifCond .eq 10, 3) := dd102_31.2.2.2.2.2.2.2.1
theorem d102_45 : decode prog_1_method_31_code 45 = .ok (.aload_n 3, 1) := dd102_31.2.2.2.2.2.2.2.2.1
theorem d102_46 : decode prog_1_method_31_code 46 = .ok (.getfield 85, 3) := dd102_31.2.2.2.2.2.2.2.2.2.1
theorem d102_49 : decode prog_1_method_31_code 49 = .ok (.goto 5, 3) := dd102_31.2.2.2.2.2.2.2.2.2.2.1
theorem d102_52 : decode prog_1_method_31_code 52 = .ok (.bipush (-12), 2) := dd102_31.2.2.2.2.2.2.2.2.2.2.2.1
theorem d102_54 : decode prog_1_method_31_code 54 = .ok (.ireturn, 1) := dd102_31.2.2.2.2.2.2.2.2.2.2.2.2
theorem b102_0 {d : Nat} {S : mm_S} {a0 : Nat} {x1 : Int32} {x2 : Int32} : mm_ex d 102 0 [.ref a0, .int x1, .int x2, .null] [] S =
    if x2 < nI 0 then mm_ex d 102 10 [.ref a0, .int x1, .int x2, .null] [] S else mm_ex d 102 4 [.ref a0, .int x1, .int x2, .null] [] S :=
  Eq.trans (mx_iload_n t102 d102_0 (x := x2) rfl) <|
  (mx_ilt t102 d102_1 (tgt := 10) (by decide))
theorem b102_4 {d : Nat} {S : mm_S} {a0 : Nat} {x1 : Int32} {x2 : Int32} : mm_ex d 102 4 [.ref a0, .int x1, .int x2, .null] [] S =
    if x2 ≤ (nI 6) then mm_ex d 102 13 [.ref a0, .int x1, .int x2, .null] [] S else mm_ex d 102 10 [.ref a0, .int x1, .int x2, .null] [] S :=
  Eq.trans (mx_iload_n t102 d102_4 (x := x2) rfl) <|
  Eq.trans (mx_bipush t102 d102_5 (v := nI 6) rfl) <|
  (mx_cle t102 d102_7 (tgt := 13) (by decide))
theorem b102_10 {d : Nat} {S : mm_S} {a0 : Nat} {x1 : Int32} {x2 : Int32} : mm_ex d 102 10 [.ref a0, .int x1, .int x2, .null] [] S =
    some (some (.int (-2)), S) :=
  Eq.trans (mx_bipush t102 d102_10 (v := -2) rfl) <|
  (mx_iret t102 d102_12 (ty := .int) rfl rfl (fun h => nomatch h))
theorem b102_13 {d : Nat} {S : mm_S} {a0 : Nat} {x1 : Int32} {x2 : Int32} (h0 : mm_obj S a0 11 = true) (h1 : (mm_R S a0 0).isSome = true) (h2 : mm_rk S (mm_rg S a0 0) = 1) : mm_ex (d + 1) 102 13 [.ref a0, .int x1, .int x2, .null] [] S =
    mm_bd (mm_cl d 8 [.ref (mm_rg S a0 0), .int x1] S) (fun v S2 => mm_ex (d + 1) 102 21 [.ref a0, .int x1, .int x2, .null] (v.toList ++ []) S2) :=
  Eq.trans (mx_aload_n t102 d102_13 (x := a0) rfl) <|
  Eq.trans (mx_getR t102 d102_14 rfl fl11_17 h0 h1) <|
  Eq.trans (mx_iload_n t102 d102_17 (x := x1) rfl) <|
  (mx_virt (st := []) (k := 1) t102 [.int x1] d102_18 vt11_77 rfl rfl (Nat.le_of_ble_eq_true rfl) (Nat.le_of_ble_eq_true rfl) h2)
theorem b102_21 {d : Nat} {S : mm_S} {a0 : Nat} {x1 : Int32} {x2 : Int32} {p0 : Int32} : mm_ex d 102 21 [.ref a0, .int x1, .int x2, .null] [.int p0] S =
    if p0 = nI 0 then mm_ex d 102 24 [.ref a0, .int x1, .int x2, .null] [] S else mm_ex d 102 27 [.ref a0, .int x1, .int x2, .null] [] S :=
  (mx_ine t102 d102_21 (tgt := 27) (by decide))
theorem b102_24 {d : Nat} {S : mm_S} {a0 : Nat} {x1 : Int32} {x2 : Int32} : mm_ex d 102 24 [.ref a0, .int x1, .int x2, .null] [] S =
    some (some (.int (-11)), S) :=
  Eq.trans (mx_bipush t102 d102_24 (v := -11) rfl) <|
  (mx_iret t102 d102_26 (ty := .int) rfl rfl (fun h => nomatch h))
theorem b102_27 {d : Nat} {S : mm_S} {a0 : Nat} {x1 : Int32} {x2 : Int32} (h0 : mm_obj S a0 11 = true) (h1 : (mm_R S a0 0).isSome = true) (h2 : mm_obj S (mm_rg S a0 0) 1 = true) (h3 : (mm_R S (mm_rg S a0 0) 0).isSome = true) (h4 : mm_inb x1 (mm_N S (mm_rg S (mm_rg S a0 0) 0)) = true) (h5 : (mm_arr S (mm_rg S (mm_rg S a0 0) 0) 16 || mm_arr S (mm_rg S (mm_rg S a0 0) 0) 17 || mm_arr S (mm_rg S (mm_rg S a0 0) 0) 18) = true) (h6 : (mm_R S (mm_rg S (mm_rg S a0 0) 0) (x1).toNatClampNeg).isSome = true) : mm_ex (d + 1) 102 27 [.ref a0, .int x1, .int x2, .null] [] S =
    mm_bd (mm_cl d 112 [.ref (mm_rg S (mm_rg S (mm_rg S a0 0) 0) (x1).toNatClampNeg), .int x2] S) (fun v S2 => mm_ex (d + 1) 102 42 [.ref a0, .int x1, .int x2, .ref (mm_rg S (mm_rg S (mm_rg S a0 0) 0) (x1).toNatClampNeg)] (v.toList ++ []) S2) :=
  Eq.trans (mx_aload_n t102 d102_27 (x := a0) rfl) <|
  Eq.trans (mx_getR t102 d102_28 rfl fl11_17 h0 h1) <|
  Eq.trans (mx_getR t102 d102_31 rfl fl11_81 h2 h3) <|
  Eq.trans (mx_iload_n t102 d102_34 (x := x1) rfl) <|
  Eq.trans (mx_qaldR t102 d102_35 h5 h4 h6) <|
  Eq.trans (mx_astore_n t102 d102_36 (ls' := [.ref a0, .int x1, .int x2, .ref (mm_rg S (mm_rg S (mm_rg S a0 0) 0) (x1).toNatClampNeg)]) rfl rfl) <|
  Eq.trans (mx_aload_n t102 d102_37 (x := mm_rg S (mm_rg S (mm_rg S a0 0) 0) (x1).toNatClampNeg) rfl) <|
  Eq.trans (mx_iload_n t102 d102_38 (x := x2) rfl) <|
  (mx_stat (st := []) t102 [.ref (mm_rg S (mm_rg S (mm_rg S a0 0) 0) (x1).toNatClampNeg), .int x2] d102_39 acn11_301 mxn11_301 st11_301 rfl (Nat.le_of_ble_eq_true rfl) (Nat.le_of_ble_eq_true rfl))
theorem b102_42 {d : Nat} {S : mm_S} {a0 : Nat} {x1 : Int32} {x2 : Int32} {a3 : Nat} {p0 : Int32} : mm_ex d 102 42 [.ref a0, .int x1, .int x2, .ref a3] [.int p0] S =
    if p0 = nI 0 then mm_ex d 102 52 [.ref a0, .int x1, .int x2, .ref a3] [] S else mm_ex d 102 45 [.ref a0, .int x1, .int x2, .ref a3] [] S :=
  (mx_ieq t102 d102_42 (tgt := 52) (by decide))
theorem b102_45 {d : Nat} {S : mm_S} {a0 : Nat} {x1 : Int32} {x2 : Int32} {a3 : Nat} (h0 : mm_obj S a3 0 = true) : mm_ex d 102 45 [.ref a0, .int x1, .int x2, .ref a3] [] S =
    some (some (.int (mm_M S a3 0)), S) :=
  Eq.trans (mx_aload_n t102 d102_45 (x := a3) rfl) <|
  Eq.trans (mx_geti t102 d102_46 rfl fl11_85 h0) <|
  Eq.trans (mx_goto t102 d102_49 (tgt := 54) (by decide)) <|
  (mx_iret t102 d102_54 (ty := .int) rfl rfl (fun h => nomatch h))
theorem b102_52 {d : Nat} {S : mm_S} {a0 : Nat} {x1 : Int32} {x2 : Int32} {a3 : Nat} : mm_ex d 102 52 [.ref a0, .int x1, .int x2, .ref a3] [] S =
    some (some (.int (-12)), S) :=
  Eq.trans (mx_bipush t102 d102_52 (v := -12) rfl) <|
  (mx_iret t102 d102_54 (ty := .int) rfl rfl (fun h => nomatch h))
theorem e102 {d : Nat} {S : mm_S} {a0 : Nat} {x1 : Int32} {x2 : Int32} : mm_cl d 102 [.ref a0, .int x1, .int x2] S = mm_ex d 102 0 [.ref a0, .int x1, .int x2, .null] [] S := mm_cl_eq t102 (Nat.le_of_ble_eq_true rfl) rfl
/-! X11_count -/
theorem dd103_0 : (decode prog_1_method_32_code 0 = .ok (.iload_n 1, 1)) ∧ (decode prog_1_method_32_code 1 = .ok (.tableswitch 71 0 4 #[35, 43, 48, 56, 64], 35)) ∧ (decode prog_1_method_32_code 36 = .ok (.aload_n 0, 1)) ∧ (decode prog_1_method_32_code 37 = .ok (.getfield 17, 3)) ∧ (decode prog_1_method_32_code 40 = .ok (.getfield 65, 3)) ∧ (decode prog_1_method_32_code 43 = .ok (.ireturn, 1)) ∧ (decode prog_1_method_32_code 44 = .ok (.aload_n 0, 1)) ∧ (decode prog_1_method_32_code 45 = .ok (.getfield 142, 3)) ∧ (decode prog_1_method_32_code 48 = .ok (.ireturn, 1)) ∧ (decode prog_1_method_32_code 49 = .ok (.aload_n 0, 1)) ∧ (decode prog_1_method_32_code 50 = .ok (.getfield 17, 3)) ∧ (decode prog_1_method_32_code 53 = .ok (.getfield 268, 3)) ∧ (decode prog_1_method_32_code 56 = .ok (.ireturn, 1)) ∧ (decode prog_1_method_32_code 57 = .ok (.aload_n 0, 1)) ∧ (decode prog_1_method_32_code 58 = .ok (.getfield 39, 3)) ∧ (decode prog_1_method_32_code 61 = .ok (.getfield 139, 3)) := by decide +kernel
theorem d103_0 : decode prog_1_method_32_code 0 = .ok (.iload_n 1, 1) := dd103_0.1
theorem d103_1 : decode prog_1_method_32_code 1 = .ok (.tableswitch 71 0 4 #[35, 43, 48, 56, 64], 35) := dd103_0.2.1
theorem d103_36 : decode prog_1_method_32_code 36 = .ok (.aload_n 0, 1) := dd103_0.2.2.1
theorem d103_37 : decode prog_1_method_32_code 37 = .ok (.getfield 17, 3) := dd103_0.2.2.2.1
theorem d103_40 : decode prog_1_method_32_code 40 = .ok (.getfield 65, 3) := dd103_0.2.2.2.2.1
theorem d103_43 : decode prog_1_method_32_code 43 = .ok (.ireturn, 1) := dd103_0.2.2.2.2.2.1
theorem d103_44 : decode prog_1_method_32_code 44 = .ok (.aload_n 0, 1) := dd103_0.2.2.2.2.2.2.1
theorem d103_45 : decode prog_1_method_32_code 45 = .ok (.getfield 142, 3) := dd103_0.2.2.2.2.2.2.2.1
theorem d103_48 : decode prog_1_method_32_code 48 = .ok (.ireturn, 1) := dd103_0.2.2.2.2.2.2.2.2.1
theorem d103_49 : decode prog_1_method_32_code 49 = .ok (.aload_n 0, 1) := dd103_0.2.2.2.2.2.2.2.2.2.1
theorem d103_50 : decode prog_1_method_32_code 50 = .ok (.getfield 17, 3) := dd103_0.2.2.2.2.2.2.2.2.2.2.1
theorem d103_53 : decode prog_1_method_32_code 53 = .ok (.getfield 268, 3) := dd103_0.2.2.2.2.2.2.2.2.2.2.2.1
theorem d103_56 : decode prog_1_method_32_code 56 = .ok (.ireturn, 1) := dd103_0.2.2.2.2.2.2.2.2.2.2.2.2.1
theorem d103_57 : decode prog_1_method_32_code 57 = .ok (.aload_n 0, 1) := dd103_0.2.2.2.2.2.2.2.2.2.2.2.2.2.1
theorem d103_58 : decode prog_1_method_32_code 58 = .ok (.getfield 39, 3) := dd103_0.2.2.2.2.2.2.2.2.2.2.2.2.2.2.1
theorem d103_61 : decode prog_1_method_32_code 61 = .ok (.getfield 139, 3) := dd103_0.2.2.2.2.2.2.2.2.2.2.2.2.2.2.2
theorem dd103_64 : (decode prog_1_method_32_code 64 = .ok (.ireturn, 1)) ∧ (decode prog_1_method_32_code 65 = .ok (.aload_n 0, 1)) ∧ (decode prog_1_method_32_code 66 = .ok (.getfield 50, 3)) ∧ (decode prog_1_method_32_code 69 = .ok (.iconst 0, 1)) ∧ (decode prog_1_method_32_code 70 = .ok (.iaload, 1)) ∧ (decode prog_1_method_32_code 71 = .ok (.ireturn, 1)) ∧ (decode prog_1_method_32_code 72 = .ok (.bipush (-2), 2)) ∧ (decode prog_1_method_32_code 74 = .ok (.ireturn, 1)) := by decide +kernel
theorem d103_64 : decode prog_1_method_32_code 64 = .ok (.ireturn, 1) := dd103_64.1
theorem d103_65 : decode prog_1_method_32_code 65 = .ok (.aload_n 0, 1) := dd103_64.2.1
theorem d103_66 : decode prog_1_method_32_code 66 = .ok (.getfield 50, 3) := dd103_64.2.2.1
theorem d103_69 : decode prog_1_method_32_code 69 = .ok (.iconst 0, 1) := dd103_64.2.2.2.1
theorem d103_70 : decode prog_1_method_32_code 70 = .ok (.iaload, 1) := dd103_64.2.2.2.2.1
theorem d103_71 : decode prog_1_method_32_code 71 = .ok (.ireturn, 1) := dd103_64.2.2.2.2.2.1
theorem d103_72 : decode prog_1_method_32_code 72 = .ok (.bipush (-2), 2) := dd103_64.2.2.2.2.2.2.1
theorem d103_74 : decode prog_1_method_32_code 74 = .ok (.ireturn, 1) := dd103_64.2.2.2.2.2.2.2
theorem b103_0 {d : Nat} {S : mm_S} {a0 : Nat} {x1 : Int32} : mm_ex d 103 0 [.ref a0, .int x1] [] S =
    mm_ex d 103 1 [.ref a0, .int x1] [.int x1] S :=
  (mx_iload_n t103 d103_0 (x := x1) rfl)
theorem b103_1 {d : Nat} {S : mm_S} {a0 : Nat} {x1 : Int32} {p0 : Int32} : mm_ex d 103 1 [.ref a0, .int x1] [.int p0] S =
    if p0 = nI 0 then mm_ex d 103 36 [.ref a0, .int x1] [] S else if p0 = nI 1 then mm_ex d 103 44 [.ref a0, .int x1] [] S else if p0 = nI 2 then mm_ex d 103 49 [.ref a0, .int x1] [] S else if p0 = nI 3 then mm_ex d 103 57 [.ref a0, .int x1] [] S else if p0 = nI 4 then mm_ex d 103 65 [.ref a0, .int x1] [] S else mm_ex d 103 72 [.ref a0, .int x1] [] S := by
  by_cases e0 : p0 = nI 0
  · subst e0
    rw [if_pos rfl]
    exact mx_tswI t103 d103_1 (by decide) (off := 35) (by decide) (by decide)
  by_cases e1 : p0 = nI 1
  · subst e1
    rw [if_neg (by decide), if_pos rfl]
    exact mx_tswI t103 d103_1 (by decide) (off := 43) (by decide) (by decide)
  by_cases e2 : p0 = nI 2
  · subst e2
    rw [if_neg (by decide), if_neg (by decide), if_pos rfl]
    exact mx_tswI t103 d103_1 (by decide) (off := 48) (by decide) (by decide)
  by_cases e3 : p0 = nI 3
  · subst e3
    rw [if_neg (by decide), if_neg (by decide), if_neg (by decide), if_pos rfl]
    exact mx_tswI t103 d103_1 (by decide) (off := 56) (by decide) (by decide)
  by_cases e4 : p0 = nI 4
  · subst e4
    rw [if_neg (by decide), if_neg (by decide), if_neg (by decide), if_neg (by decide), if_pos rfl]
    exact mx_tswI t103 d103_1 (by decide) (off := 64) (by decide) (by decide)
  rw [if_neg e0, if_neg e1, if_neg e2, if_neg e3, if_neg e4]
  have g0 := mm_ni32 e0
  have g1 := mm_ni32 e1
  have g2 := mm_ni32 e2
  have g3 := mm_ni32 e3
  have g4 := mm_ni32 e4
  rw [show (nI 0 : Int32).toInt = 0 by decide] at g0
  rw [show (nI 1 : Int32).toInt = 1 by decide] at g1
  rw [show (nI 2 : Int32).toInt = 2 by decide] at g2
  rw [show (nI 3 : Int32).toInt = 3 by decide] at g3
  rw [show (nI 4 : Int32).toInt = 4 by decide] at g4
  exact mx_tswD t103 d103_1 (by omega) (by decide)
theorem b103_36 {d : Nat} {S : mm_S} {a0 : Nat} {x1 : Int32} (h0 : mm_obj S a0 11 = true) (h1 : (mm_R S a0 0).isSome = true) (h2 : mm_obj S (mm_rg S a0 0) 1 = true) : mm_ex d 103 36 [.ref a0, .int x1] [] S =
    some (some (.int (mm_M S (mm_rg S a0 0) 10)), S) :=
  Eq.trans (mx_aload_n t103 d103_36 (x := a0) rfl) <|
  Eq.trans (mx_getR t103 d103_37 rfl fl11_17 h0 h1) <|
  Eq.trans (mx_geti t103 d103_40 rfl fl11_65 h2) <|
  (mx_iret t103 d103_43 (ty := .int) rfl rfl (fun h => nomatch h))
theorem b103_44 {d : Nat} {S : mm_S} {a0 : Nat} {x1 : Int32} (h0 : mm_obj S a0 11 = true) : mm_ex d 103 44 [.ref a0, .int x1] [] S =
    some (some (.int (mm_M S a0 11)), S) :=
  Eq.trans (mx_aload_n t103 d103_44 (x := a0) rfl) <|
  Eq.trans (mx_geti t103 d103_45 rfl fl11_142 h0) <|
  (mx_iret t103 d103_48 (ty := .int) rfl rfl (fun h => nomatch h))
theorem b103_49 {d : Nat} {S : mm_S} {a0 : Nat} {x1 : Int32} (h0 : mm_obj S a0 11 = true) (h1 : (mm_R S a0 0).isSome = true) (h2 : mm_obj S (mm_rg S a0 0) 1 = true) : mm_ex d 103 49 [.ref a0, .int x1] [] S =
    some (some (.int (mm_M S (mm_rg S a0 0) 17)), S) :=
  Eq.trans (mx_aload_n t103 d103_49 (x := a0) rfl) <|
  Eq.trans (mx_getR t103 d103_50 rfl fl11_17 h0 h1) <|
  Eq.trans (mx_geti t103 d103_53 rfl fl11_268 h2) <|
  (mx_iret t103 d103_56 (ty := .int) rfl rfl (fun h => nomatch h))
theorem b103_57 {d : Nat} {S : mm_S} {a0 : Nat} {x1 : Int32} (h0 : mm_obj S a0 11 = true) (h1 : (mm_R S a0 5).isSome = true) (h2 : mm_obj S (mm_rg S a0 5) 5 = true) : mm_ex d 103 57 [.ref a0, .int x1] [] S =
    some (some (.int (mm_M S (mm_rg S a0 5) 0)), S) :=
  Eq.trans (mx_aload_n t103 d103_57 (x := a0) rfl) <|
  Eq.trans (mx_getR t103 d103_58 rfl fl11_39 h0 h1) <|
  Eq.trans (mx_geti t103 d103_61 rfl fl11_139 h2) <|
  (mx_iret t103 d103_64 (ty := .int) rfl rfl (fun h => nomatch h))
theorem b103_65 {d : Nat} {S : mm_S} {a0 : Nat} {x1 : Int32} (h0 : mm_obj S a0 11 = true) (h1 : (mm_R S a0 7).isSome = true) (h2 : mm_inb (nI 0) (mm_N S (mm_rg S a0 7)) = true) (h3 : mm_arr S (mm_rg S a0 7) 13 = true) : mm_ex d 103 65 [.ref a0, .int x1] [] S =
    some (some (.int (mm_M S (mm_rg S a0 7) (nI 0).toNatClampNeg)), S) :=
  Eq.trans (mx_aload_n t103 d103_65 (x := a0) rfl) <|
  Eq.trans (mx_getR t103 d103_66 rfl fl11_50 h0 h1) <|
  Eq.trans (mx_iconst t103 d103_69 (v := nI 0) rfl) <|
  Eq.trans (mx_iald t103 d103_70 h3 h2) <|
  (mx_iret t103 d103_71 (ty := .int) rfl rfl (fun h => nomatch h))
theorem b103_72 {d : Nat} {S : mm_S} {a0 : Nat} {x1 : Int32} : mm_ex d 103 72 [.ref a0, .int x1] [] S =
    some (some (.int (-2)), S) :=
  Eq.trans (mx_bipush t103 d103_72 (v := -2) rfl) <|
  (mx_iret t103 d103_74 (ty := .int) rfl rfl (fun h => nomatch h))
theorem e103 {d : Nat} {S : mm_S} {a0 : Nat} {x1 : Int32} : mm_cl d 103 [.ref a0, .int x1] S = mm_ex d 103 0 [.ref a0, .int x1] [] S := mm_cl_eq t103 (Nat.le_of_ble_eq_true rfl) rfl
/-! X11_tape -/
theorem dd104_0 : (decode prog_1_method_33_code 0 = .ok (.iload_n 1, 1)) ∧ (decode prog_1_method_33_code 1 = .ok (.invokestatic 274, 3)) ∧ (decode prog_1_method_33_code 4 = .ok (.ifCond .ne 5, 3)) ∧ (decode prog_1_method_33_code 7 = .ok (.iconst (-1), 1)) ∧ (decode prog_1_method_33_code 8 = .ok (.ireturn, 1)) ∧ (decode prog_1_method_33_code 9 = .ok (.iload_n 2, 1)) ∧ (decode prog_1_method_33_code 10 = .ok (.iconst (-1), 1)) ∧ (decode prog_1_method_33_code 11 = .ok (.if_icmp .ne 16, 3)) ∧ (decode prog_1_method_33_code 14 = .ok (.aload_n 0, 1)) ∧ (decode prog_1_method_33_code 15 = .ok (.getfield 45, 3)) ∧ (decode prog_1_method_33_code 18 = .ok (.iload_n 1, 1)) ∧ (decode prog_1_method_33_code 19 = .ok (.aaload, 1)) ∧ (decode prog_1_method_33_code 20 = .ok (.iconst (-1), 1)) ∧ (decode prog_1_method_33_code 21 = .ok (.iconst 0, 1)) ∧ (decode prog_1_method_33_code 22 = .ok (.invokevirtual 305, 3)) ∧ (decode prog_1_method_33_code 25 = .ok (.iconst 1, 1)) := by decide +kernel
theorem d104_0 : decode prog_1_method_33_code 0 = .ok (.iload_n 1, 1) := dd104_0.1
theorem d104_1 : decode prog_1_method_33_code 1 = .ok (.invokestatic 274, 3) := dd104_0.2.1
theorem d104_4 : decode prog_1_method_33_code 4 = .ok (.ifCond .ne 5, 3) := dd104_0.2.2.1
theorem d104_7 : decode prog_1_method_33_code 7 = .ok (.iconst (-1), 1) := dd104_0.2.2.2.1
theorem d104_8 : decode prog_1_method_33_code 8 = .ok (.ireturn, 1) := dd104_0.2.2.2.2.1
theorem d104_9 : decode prog_1_method_33_code 9 = .ok (.iload_n 2, 1) := dd104_0.2.2.2.2.2.1
theorem d104_10 : decode prog_1_method_33_code 10 = .ok (.iconst (-1), 1) := dd104_0.2.2.2.2.2.2.1
theorem d104_11 : decode prog_1_method_33_code 11 = .ok (.if_icmp .ne 16, 3) := dd104_0.2.2.2.2.2.2.2.1
theorem d104_14 : decode prog_1_method_33_code 14 = .ok (.aload_n 0, 1) := dd104_0.2.2.2.2.2.2.2.2.1
theorem d104_15 : decode prog_1_method_33_code 15 = .ok (.getfield 45, 3) := dd104_0.2.2.2.2.2.2.2.2.2.1
theorem d104_18 : decode prog_1_method_33_code 18 = .ok (.iload_n 1, 1) := dd104_0.2.2.2.2.2.2.2.2.2.2.1
theorem d104_19 : decode prog_1_method_33_code 19 = .ok (.aaload, 1) := dd104_0.2.2.2.2.2.2.2.2.2.2.2.1
theorem d104_20 : decode prog_1_method_33_code 20 = .ok (.iconst (-1), 1) := dd104_0.2.2.2.2.2.2.2.2.2.2.2.2.1
theorem d104_21 : decode prog_1_method_33_code 21 = .ok (.iconst 0, 1) := dd104_0.2.2.2.2.2.2.2.2.2.2.2.2.2.1
theorem d104_22 : decode prog_1_method_33_code 22 = .ok (.invokevirtual 305, 3) := dd104_0.2.2.2.2.2.2.2.2.2.2.2.2.2.2.1
theorem d104_25 : decode prog_1_method_33_code 25 = .ok (.iconst 1, 1) := dd104_0.2.2.2.2.2.2.2.2.2.2.2.2.2.2.2
theorem dd104_26 : (decode prog_1_method_33_code 26 = .ok (.ireturn, 1)) ∧ (decode prog_1_method_33_code 27 = .ok (.iload_n 2, 1)) ∧ (decode prog_1_method_33_code 28 = .ok (.ifCond .lt 14, 3)) ∧ (decode prog_1_method_33_code 31 = .ok (.iload_n 2, 1)) ∧ (decode prog_1_method_33_code 32 = .ok (.iconst 4, 1)) ∧ (decode prog_1_method_33_code 33 = .ok (.if_icmp .gt 9, 3)) ∧ (decode prog_1_method_33_code 36 = .ok (.iload_n 3, 1)) ∧ (decode prog_1_method_33_code 37 = .ok (.bipush 60, 2)) ∧ (decode prog_1_method_33_code 39 = .ok (.if_icmp .le 6, 3)) ∧ (decode prog_1_method_33_code 42 = .ok (.bipush (-2), 2)) ∧ (decode prog_1_method_33_code 44 = .ok (.ireturn, 1)) ∧ (decode prog_1_method_33_code 45 = .ok (.iload_n 3, 1)) ∧ (decode prog_1_method_33_code 46 = .ok (.ifCond .ge 6, 3)) ∧ (decode prog_1_method_33_code 49 = .ok (.bipush (-14), 2)) ∧ (decode prog_1_method_33_code 51 = .ok (.ireturn, 1)) ∧ (decode prog_1_method_33_code 52 = .ok (.aload_n 0, 1)) := by decide +kernel
theorem d104_26 : decode prog_1_method_33_code 26 = .ok (.ireturn, 1) := dd104_26.1
theorem d104_27 : decode prog_1_method_33_code 27 = .ok (.iload_n 2, 1) := dd104_26.2.1
theorem d104_28 : decode prog_1_method_33_code 28 = .ok (.ifCond .lt 14, 3) := dd104_26.2.2.1
theorem d104_31 : decode prog_1_method_33_code 31 = .ok (.iload_n 2, 1) := dd104_26.2.2.2.1
theorem d104_32 : decode prog_1_method_33_code 32 = .ok (.iconst 4, 1) := dd104_26.2.2.2.2.1
theorem d104_33 : decode prog_1_method_33_code 33 = .ok (.if_icmp .gt 9, 3) := dd104_26.2.2.2.2.2.1
theorem d104_36 : decode prog_1_method_33_code 36 = .ok (.iload_n 3, 1) := dd104_26.2.2.2.2.2.2.1
theorem d104_37 : decode prog_1_method_33_code 37 = .ok (.bipush 60, 2) := dd104_26.2.2.2.2.2.2.2.1
theorem d104_39 : decode prog_1_method_33_code 39 = .ok (.if_icmp .le 6, 3) := dd104_26.2.2.2.2.2.2.2.2.1
theorem d104_42 : decode prog_1_method_33_code 42 = .ok (.bipush (-2), 2) := dd104_26.2.2.2.2.2.2.2.2.2.1
theorem d104_44 : decode prog_1_method_33_code 44 = .ok (.ireturn, 1) := dd104_26.2.2.2.2.2.2.2.2.2.2.1
theorem d104_45 : decode prog_1_method_33_code 45 = .ok (.iload_n 3, 1) := dd104_26.2.2.2.2.2.2.2.2.2.2.2.1
theorem d104_46 : decode prog_1_method_33_code 46 = .ok (.ifCond .ge 6, 3) := dd104_26.2.2.2.2.2.2.2.2.2.2.2.2.1
theorem d104_49 : decode prog_1_method_33_code 49 = .ok (.bipush (-14), 2) := dd104_26.2.2.2.2.2.2.2.2.2.2.2.2.2.1
theorem d104_51 : decode prog_1_method_33_code 51 = .ok (.ireturn, 1) := dd104_26.2.2.2.2.2.2.2.2.2.2.2.2.2.2.1
theorem d104_52 : decode prog_1_method_33_code 52 = .ok (.aload_n 0, 1) := dd104_26.2.2.2.2.2.2.2.2.2.2.2.2.2.2.2
theorem dd104_53 : (decode prog_1_method_33_code 53 = .ok (.getfield 45, 3)) ∧ (decode prog_1_method_33_code 56 = .ok (.iload_n 1, 1)) ∧ (decode prog_1_method_33_code 57 = .ok (.aaload, 1)) ∧ (decode prog_1_method_33_code 58 = .ok (.iload_n 2, 1)) ∧ (decode prog_1_method_33_code 59 = .ok (.iload_n 3, 1)) ∧ (decode prog_1_method_33_code 60 = .ok (.invokevirtual 305, 3)) ∧ (decode prog_1_method_33_code 63 = .ok (.iconst 1, 1)) ∧ (decode prog_1_method_33_code 64 = .ok (.ireturn, 1)) := by decide +kernel
theorem d104_53 : decode prog_1_method_33_code 53 = .ok (.getfield 45, 3) := dd104_53.1
theorem d104_56 : decode prog_1_method_33_code 56 = .ok (.iload_n 1, 1) := dd104_53.2.1
theorem d104_57 : decode prog_1_method_33_code 57 = .ok (.aaload, 1) := dd104_53.2.2.1
theorem d104_58 : decode prog_1_method_33_code 58 = .ok (.iload_n 2, 1) := dd104_53.2.2.2.1
theorem d104_59 : decode prog_1_method_33_code 59 = .ok (.iload_n 3, 1) := dd104_53.2.2.2.2.1
theorem d104_60 : decode prog_1_method_33_code 60 = .ok (.invokevirtual 305, 3) := dd104_53.2.2.2.2.2.1
theorem d104_63 : decode prog_1_method_33_code 63 = .ok (.iconst 1, 1) := dd104_53.2.2.2.2.2.2.1
theorem d104_64 : decode prog_1_method_33_code 64 = .ok (.ireturn, 1) := dd104_53.2.2.2.2.2.2.2
theorem b104_0 {d : Nat} {S : mm_S} {a0 : Nat} {x1 : Int32} {x2 : Int32} {x3 : Int32} : mm_ex (d + 1) 104 0 [.ref a0, .int x1, .int x2, .int x3] [] S =
    mm_bd (mm_cl d 109 [.int x1] S) (fun v S2 => mm_ex (d + 1) 104 4 [.ref a0, .int x1, .int x2, .int x3] (v.toList ++ []) S2) :=
  Eq.trans (mx_iload_n t104 d104_0 (x := x1) rfl) <|
  (mx_stat (st := []) t104 [.int x1] d104_1 acn11_274 mxn11_274 st11_274 rfl (Nat.le_of_ble_eq_true rfl) (Nat.le_of_ble_eq_true rfl))
theorem b104_4 {d : Nat} {S : mm_S} {a0 : Nat} {x1 : Int32} {x2 : Int32} {x3 : Int32} {p0 : Int32} : mm_ex d 104 4 [.ref a0, .int x1, .int x2, .int x3] [.int p0] S =
    if p0 = nI 0 then mm_ex d 104 7 [.ref a0, .int x1, .int x2, .int x3] [] S else mm_ex d 104 9 [.ref a0, .int x1, .int x2, .int x3] [] S :=
  (mx_ine t104 d104_4 (tgt := 9) (by decide))
theorem b104_7 {d : Nat} {S : mm_S} {a0 : Nat} {x1 : Int32} {x2 : Int32} {x3 : Int32} : mm_ex d 104 7 [.ref a0, .int x1, .int x2, .int x3] [] S =
    some (some (.int (-1)), S) :=
  Eq.trans (mx_iconst t104 d104_7 (v := -1) rfl) <|
  (mx_iret t104 d104_8 (ty := .int) rfl rfl (fun h => nomatch h))
theorem b104_9 {d : Nat} {S : mm_S} {a0 : Nat} {x1 : Int32} {x2 : Int32} {x3 : Int32} : mm_ex d 104 9 [.ref a0, .int x1, .int x2, .int x3] [] S =
    if x2 = (-1) then mm_ex d 104 14 [.ref a0, .int x1, .int x2, .int x3] [] S else mm_ex d 104 27 [.ref a0, .int x1, .int x2, .int x3] [] S :=
  Eq.trans (mx_iload_n t104 d104_9 (x := x2) rfl) <|
  Eq.trans (mx_iconst t104 d104_10 (v := -1) rfl) <|
  (mx_cne t104 d104_11 (tgt := 27) (by decide))
theorem b104_14 {d : Nat} {S : mm_S} {a0 : Nat} {x1 : Int32} {x2 : Int32} {x3 : Int32} (h0 : mm_obj S a0 11 = true) (h1 : (mm_R S a0 6).isSome = true) (h2 : mm_inb x1 (mm_N S (mm_rg S a0 6)) = true) (h3 : (mm_arr S (mm_rg S a0 6) 16 || mm_arr S (mm_rg S a0 6) 17 || mm_arr S (mm_rg S a0 6) 18) = true) (h4 : (mm_R S (mm_rg S a0 6) (x1).toNatClampNeg).isSome = true) (h5 : mm_rk S (mm_rg S (mm_rg S a0 6) (x1).toNatClampNeg) = 8) : mm_ex (d + 1) 104 14 [.ref a0, .int x1, .int x2, .int x3] [] S =
    mm_bd (mm_cl d 60 [.ref (mm_rg S (mm_rg S a0 6) (x1).toNatClampNeg), .int (-1), .int (nI 0)] S) (fun v S2 => mm_ex (d + 1) 104 25 [.ref a0, .int x1, .int x2, .int x3] (v.toList ++ []) S2) :=
  Eq.trans (mx_aload_n t104 d104_14 (x := a0) rfl) <|
  Eq.trans (mx_getR t104 d104_15 rfl fl11_45 h0 h1) <|
  Eq.trans (mx_iload_n t104 d104_18 (x := x1) rfl) <|
  Eq.trans (mx_qaldR t104 d104_19 h3 h2 h4) <|
  Eq.trans (mx_iconst t104 d104_20 (v := -1) rfl) <|
  Eq.trans (mx_iconst t104 d104_21 (v := nI 0) rfl) <|
  (mx_virt (st := []) (k := 8) t104 [.int (-1), .int (nI 0)] d104_22 vt11_305 rfl rfl (Nat.le_of_ble_eq_true rfl) (Nat.le_of_ble_eq_true rfl) h5)
theorem b104_25 {d : Nat} {S : mm_S} {a0 : Nat} {x1 : Int32} {x2 : Int32} {x3 : Int32} : mm_ex d 104 25 [.ref a0, .int x1, .int x2, .int x3] [] S =
    some (some (.int (nI 1)), S) :=
  Eq.trans (mx_iconst t104 d104_25 (v := nI 1) rfl) <|
  (mx_iret t104 d104_26 (ty := .int) rfl rfl (fun h => nomatch h))
theorem b104_27 {d : Nat} {S : mm_S} {a0 : Nat} {x1 : Int32} {x2 : Int32} {x3 : Int32} : mm_ex d 104 27 [.ref a0, .int x1, .int x2, .int x3] [] S =
    if x2 < nI 0 then mm_ex d 104 42 [.ref a0, .int x1, .int x2, .int x3] [] S else mm_ex d 104 31 [.ref a0, .int x1, .int x2, .int x3] [] S :=
  Eq.trans (mx_iload_n t104 d104_27 (x := x2) rfl) <|
  (mx_ilt t104 d104_28 (tgt := 42) (by decide))
theorem b104_31 {d : Nat} {S : mm_S} {a0 : Nat} {x1 : Int32} {x2 : Int32} {x3 : Int32} : mm_ex d 104 31 [.ref a0, .int x1, .int x2, .int x3] [] S =
    if (nI 4) < x2 then mm_ex d 104 42 [.ref a0, .int x1, .int x2, .int x3] [] S else mm_ex d 104 36 [.ref a0, .int x1, .int x2, .int x3] [] S :=
  Eq.trans (mx_iload_n t104 d104_31 (x := x2) rfl) <|
  Eq.trans (mx_iconst t104 d104_32 (v := nI 4) rfl) <|
  (mx_cgt t104 d104_33 (tgt := 42) (by decide))
theorem b104_36 {d : Nat} {S : mm_S} {a0 : Nat} {x1 : Int32} {x2 : Int32} {x3 : Int32} : mm_ex d 104 36 [.ref a0, .int x1, .int x2, .int x3] [] S =
    if x3 ≤ (nI 60) then mm_ex d 104 45 [.ref a0, .int x1, .int x2, .int x3] [] S else mm_ex d 104 42 [.ref a0, .int x1, .int x2, .int x3] [] S :=
  Eq.trans (mx_iload_n t104 d104_36 (x := x3) rfl) <|
  Eq.trans (mx_bipush t104 d104_37 (v := nI 60) rfl) <|
  (mx_cle t104 d104_39 (tgt := 45) (by decide))
theorem b104_42 {d : Nat} {S : mm_S} {a0 : Nat} {x1 : Int32} {x2 : Int32} {x3 : Int32} : mm_ex d 104 42 [.ref a0, .int x1, .int x2, .int x3] [] S =
    some (some (.int (-2)), S) :=
  Eq.trans (mx_bipush t104 d104_42 (v := -2) rfl) <|
  (mx_iret t104 d104_44 (ty := .int) rfl rfl (fun h => nomatch h))
theorem b104_45 {d : Nat} {S : mm_S} {a0 : Nat} {x1 : Int32} {x2 : Int32} {x3 : Int32} : mm_ex d 104 45 [.ref a0, .int x1, .int x2, .int x3] [] S =
    if nI 0 ≤ x3 then mm_ex d 104 52 [.ref a0, .int x1, .int x2, .int x3] [] S else mm_ex d 104 49 [.ref a0, .int x1, .int x2, .int x3] [] S :=
  Eq.trans (mx_iload_n t104 d104_45 (x := x3) rfl) <|
  (mx_ige t104 d104_46 (tgt := 52) (by decide))
theorem b104_49 {d : Nat} {S : mm_S} {a0 : Nat} {x1 : Int32} {x2 : Int32} {x3 : Int32} : mm_ex d 104 49 [.ref a0, .int x1, .int x2, .int x3] [] S =
    some (some (.int (-14)), S) :=
  Eq.trans (mx_bipush t104 d104_49 (v := -14) rfl) <|
  (mx_iret t104 d104_51 (ty := .int) rfl rfl (fun h => nomatch h))
theorem b104_52 {d : Nat} {S : mm_S} {a0 : Nat} {x1 : Int32} {x2 : Int32} {x3 : Int32} (h0 : mm_obj S a0 11 = true) (h1 : (mm_R S a0 6).isSome = true) (h2 : mm_inb x1 (mm_N S (mm_rg S a0 6)) = true) (h3 : (mm_arr S (mm_rg S a0 6) 16 || mm_arr S (mm_rg S a0 6) 17 || mm_arr S (mm_rg S a0 6) 18) = true) (h4 : (mm_R S (mm_rg S a0 6) (x1).toNatClampNeg).isSome = true) (h5 : mm_rk S (mm_rg S (mm_rg S a0 6) (x1).toNatClampNeg) = 8) : mm_ex (d + 1) 104 52 [.ref a0, .int x1, .int x2, .int x3] [] S =
    mm_bd (mm_cl d 60 [.ref (mm_rg S (mm_rg S a0 6) (x1).toNatClampNeg), .int x2, .int x3] S) (fun v S2 => mm_ex (d + 1) 104 63 [.ref a0, .int x1, .int x2, .int x3] (v.toList ++ []) S2) :=
  Eq.trans (mx_aload_n t104 d104_52 (x := a0) rfl) <|
  Eq.trans (mx_getR t104 d104_53 rfl fl11_45 h0 h1) <|
  Eq.trans (mx_iload_n t104 d104_56 (x := x1) rfl) <|
  Eq.trans (mx_qaldR t104 d104_57 h3 h2 h4) <|
  Eq.trans (mx_iload_n t104 d104_58 (x := x2) rfl) <|
  Eq.trans (mx_iload_n t104 d104_59 (x := x3) rfl) <|
  (mx_virt (st := []) (k := 8) t104 [.int x2, .int x3] d104_60 vt11_305 rfl rfl (Nat.le_of_ble_eq_true rfl) (Nat.le_of_ble_eq_true rfl) h5)
theorem b104_63 {d : Nat} {S : mm_S} {a0 : Nat} {x1 : Int32} {x2 : Int32} {x3 : Int32} : mm_ex d 104 63 [.ref a0, .int x1, .int x2, .int x3] [] S =
    some (some (.int (nI 1)), S) :=
  Eq.trans (mx_iconst t104 d104_63 (v := nI 1) rfl) <|
  (mx_iret t104 d104_64 (ty := .int) rfl rfl (fun h => nomatch h))
theorem e104 {d : Nat} {S : mm_S} {a0 : Nat} {x1 : Int32} {x2 : Int32} {x3 : Int32} : mm_cl d 104 [.ref a0, .int x1, .int x2, .int x3] S = mm_ex d 104 0 [.ref a0, .int x1, .int x2, .int x3] [] S := mm_cl_eq t104 (Nat.le_of_ble_eq_true rfl) rfl
/-! X11_item -/
theorem dd105_0 : (decode prog_1_method_34_code 0 = .ok (.iload_n 1, 1)) ∧ (decode prog_1_method_34_code 1 = .ok (.invokestatic 274, 3)) ∧ (decode prog_1_method_34_code 4 = .ok (.ifCond .ne 5, 3)) ∧ (decode prog_1_method_34_code 7 = .ok (.iconst (-1), 1)) ∧ (decode prog_1_method_34_code 8 = .ok (.ireturn, 1)) ∧ (decode prog_1_method_34_code 9 = .ok (.aload_n 0, 1)) ∧ (decode prog_1_method_34_code 10 = .ok (.getfield 45, 3)) ∧ (decode prog_1_method_34_code 13 = .ok (.iload_n 1, 1)) ∧ (decode prog_1_method_34_code 14 = .ok (.aaload, 1)) ∧ (decode prog_1_method_34_code 15 = .ok (.astore 5, 2)) ∧ (decode prog_1_method_34_code 17 = .ok (.aload 5, 2)) ∧ (decode prog_1_method_34_code 19 = .ok (.invokevirtual 277, 3)) ∧ (decode prog_1_method_34_code 22 = .ok (.ifCond .eq 6, 3)) ∧ (decode prog_1_method_34_code 25 = .ok (.bipush (-11), 2)) ∧ (decode prog_1_method_34_code 27 = .ok (.ireturn, 1)) ∧ (decode prog_1_method_34_code 28 = .ok (.aload 5, 2)) := by decide +kernel
theorem d105_0 : decode prog_1_method_34_code 0 = .ok (.iload_n 1, 1) := dd105_0.1
theorem d105_1 : decode prog_1_method_34_code 1 = .ok (.invokestatic 274, 3) := dd105_0.2.1
theorem d105_4 : decode prog_1_method_34_code 4 = .ok (.ifCond .ne 5, 3) := dd105_0.2.2.1
theorem d105_7 : decode prog_1_method_34_code 7 = .ok (.iconst (-1), 1) := dd105_0.2.2.2.1
theorem d105_8 : decode prog_1_method_34_code 8 = .ok (.ireturn, 1) := dd105_0.2.2.2.2.1
theorem d105_9 : decode prog_1_method_34_code 9 = .ok (.aload_n 0, 1) := dd105_0.2.2.2.2.2.1
theorem d105_10 : decode prog_1_method_34_code 10 = .ok (.getfield 45, 3) := dd105_0.2.2.2.2.2.2.1
theorem d105_13 : decode prog_1_method_34_code 13 = .ok (.iload_n 1, 1) := dd105_0.2.2.2.2.2.2.2.1
theorem d105_14 : decode prog_1_method_34_code 14 = .ok (.aaload, 1) := dd105_0.2.2.2.2.2.2.2.2.1
theorem d105_15 : decode prog_1_method_34_code 15 = .ok (.astore 5, 2) := dd105_0.2.2.2.2.2.2.2.2.2.1
theorem d105_17 : decode prog_1_method_34_code 17 = .ok (.aload 5, 2) := dd105_0.2.2.2.2.2.2.2.2.2.2.1
theorem d105_19 : decode prog_1_method_34_code 19 = .ok (.invokevirtual 277, 3) := dd105_0.2.2.2.2.2.2.2.2.2.2.2.1
theorem d105_22 : decode prog_1_method_34_code 22 = .ok (.ifCond .eq 6, 3) := dd105_0.2.2.2.2.2.2.2.2.2.2.2.2.1
theorem d105_25 : decode prog_1_method_34_code 25 = .ok (.bipush (-11), 2) := dd105_0.2.2.2.2.2.2.2.2.2.2.2.2.2.1
theorem d105_27 : decode prog_1_method_34_code 27 = .ok (.ireturn, 1) := dd105_0.2.2.2.2.2.2.2.2.2.2.2.2.2.2.1
theorem d105_28 : decode prog_1_method_34_code 28 = .ok (.aload 5, 2) := dd105_0.2.2.2.2.2.2.2.2.2.2.2.2.2.2.2
theorem dd105_30 : (decode prog_1_method_34_code 30 = .ok (.iload_n 2, 1)) ∧ (decode prog_1_method_34_code 31 = .ok (.invokevirtual 309, 3)) ∧ (decode prog_1_method_34_code 34 = .ok (.ifCond .ne 6, 3)) ∧ (decode prog_1_method_34_code 37 = .ok (.bipush (-13), 2)) ∧ (decode prog_1_method_34_code 39 = .ok (.ireturn, 1)) ∧ (decode prog_1_method_34_code 40 = .ok (.aload 5, 2)) ∧ (decode prog_1_method_34_code 42 = .ok (.getfield 284, 3)) ∧ (decode prog_1_method_34_code 45 = .ok (.iload_n 2, 1)) ∧ (decode prog_1_method_34_code 46 = .ok (.aload 5, 2)) ∧ (decode prog_1_method_34_code 48 = .ok (.lload_n 3, 1)) ∧ (decode prog_1_method_34_code 49 = .ok (.invokevirtual 312, 3)) ∧ (decode prog_1_method_34_code 52 = .ok (.lastore, 1)) ∧ (decode prog_1_method_34_code 53 = .ok (.iconst 1, 1)) ∧ (decode prog_1_method_34_code 54 = .ok (.ireturn, 1)) := by decide +kernel
theorem d105_30 : decode prog_1_method_34_code 30 = .ok (.iload_n 2, 1) := dd105_30.1
theorem d105_31 : decode prog_1_method_34_code 31 = .ok (.invokevirtual 309, 3) := dd105_30.2.1
theorem d105_34 : decode prog_1_method_34_code 34 = .ok (.ifCond .ne 6, 3) := dd105_30.2.2.1
theorem d105_37 : decode prog_1_method_34_code 37 = .ok (.bipush (-13), 2) := dd105_30.2.2.2.1
theorem d105_39 : decode prog_1_method_34_code 39 = .ok (.ireturn, 1) := dd105_30.2.2.2.2.1
theorem d105_40 : decode prog_1_method_34_code 40 = .ok (.aload 5, 2) := dd105_30.2.2.2.2.2.1
theorem d105_42 : decode prog_1_method_34_code 42 = .ok (.getfield 284, 3) := dd105_30.2.2.2.2.2.2.1
theorem d105_45 : decode prog_1_method_34_code 45 = .ok (.iload_n 2, 1) := dd105_30.2.2.2.2.2.2.2.1
theorem d105_46 : decode prog_1_method_34_code 46 = .ok (.aload 5, 2) := dd105_30.2.2.2.2.2.2.2.2.1
theorem d105_48 : decode prog_1_method_34_code 48 = .ok (.lload_n 3, 1) := dd105_30.2.2.2.2.2.2.2.2.2.1
theorem d105_49 : decode prog_1_method_34_code 49 = .ok (.invokevirtual 312, 3) := dd105_30.2.2.2.2.2.2.2.2.2.2.1
theorem d105_52 : decode prog_1_method_34_code 52 = .ok (.lastore, 1) := dd105_30.2.2.2.2.2.2.2.2.2.2.2.1
theorem d105_53 : decode prog_1_method_34_code 53 = .ok (.iconst 1, 1) := dd105_30.2.2.2.2.2.2.2.2.2.2.2.2.1
theorem d105_54 : decode prog_1_method_34_code 54 = .ok (.ireturn, 1) := dd105_30.2.2.2.2.2.2.2.2.2.2.2.2.2
theorem b105_0 {d : Nat} {S : mm_S} {a0 : Nat} {x1 : Int32} {x2 : Int32} {j3 : Int64} : mm_ex (d + 1) 105 0 [.ref a0, .int x1, .int x2, .long j3, .null, .null] [] S =
    mm_bd (mm_cl d 109 [.int x1] S) (fun v S2 => mm_ex (d + 1) 105 4 [.ref a0, .int x1, .int x2, .long j3, .null, .null] (v.toList ++ []) S2) :=
  Eq.trans (mx_iload_n t105 d105_0 (x := x1) rfl) <|
  (mx_stat (st := []) t105 [.int x1] d105_1 acn11_274 mxn11_274 st11_274 rfl (Nat.le_of_ble_eq_true rfl) (Nat.le_of_ble_eq_true rfl))
theorem b105_4 {d : Nat} {S : mm_S} {a0 : Nat} {x1 : Int32} {x2 : Int32} {j3 : Int64} {p0 : Int32} : mm_ex d 105 4 [.ref a0, .int x1, .int x2, .long j3, .null, .null] [.int p0] S =
    if p0 = nI 0 then mm_ex d 105 7 [.ref a0, .int x1, .int x2, .long j3, .null, .null] [] S else mm_ex d 105 9 [.ref a0, .int x1, .int x2, .long j3, .null, .null] [] S :=
  (mx_ine t105 d105_4 (tgt := 9) (by decide))
theorem b105_7 {d : Nat} {S : mm_S} {a0 : Nat} {x1 : Int32} {x2 : Int32} {j3 : Int64} : mm_ex d 105 7 [.ref a0, .int x1, .int x2, .long j3, .null, .null] [] S =
    some (some (.int (-1)), S) :=
  Eq.trans (mx_iconst t105 d105_7 (v := -1) rfl) <|
  (mx_iret t105 d105_8 (ty := .int) rfl rfl (fun h => nomatch h))
theorem b105_9 {d : Nat} {S : mm_S} {a0 : Nat} {x1 : Int32} {x2 : Int32} {j3 : Int64} (h0 : mm_obj S a0 11 = true) (h1 : (mm_R S a0 6).isSome = true) (h2 : mm_inb x1 (mm_N S (mm_rg S a0 6)) = true) (h3 : (mm_arr S (mm_rg S a0 6) 16 || mm_arr S (mm_rg S a0 6) 17 || mm_arr S (mm_rg S a0 6) 18) = true) (h4 : (mm_R S (mm_rg S a0 6) (x1).toNatClampNeg).isSome = true) (h5 : mm_rk S (mm_rg S (mm_rg S a0 6) (x1).toNatClampNeg) = 8) : mm_ex (d + 1) 105 9 [.ref a0, .int x1, .int x2, .long j3, .null, .null] [] S =
    mm_bd (mm_cl d 61 [.ref (mm_rg S (mm_rg S a0 6) (x1).toNatClampNeg)] S) (fun v S2 => mm_ex (d + 1) 105 22 [.ref a0, .int x1, .int x2, .long j3, .null, .ref (mm_rg S (mm_rg S a0 6) (x1).toNatClampNeg)] (v.toList ++ []) S2) :=
  Eq.trans (mx_aload_n t105 d105_9 (x := a0) rfl) <|
  Eq.trans (mx_getR t105 d105_10 rfl fl11_45 h0 h1) <|
  Eq.trans (mx_iload_n t105 d105_13 (x := x1) rfl) <|
  Eq.trans (mx_qaldR t105 d105_14 h3 h2 h4) <|
  Eq.trans (mx_astore t105 d105_15 (ls' := [.ref a0, .int x1, .int x2, .long j3, .null, .ref (mm_rg S (mm_rg S a0 6) (x1).toNatClampNeg)]) rfl rfl) <|
  Eq.trans (mx_aload t105 d105_17 (x := mm_rg S (mm_rg S a0 6) (x1).toNatClampNeg) rfl) <|
  (mx_virt (st := []) (k := 8) t105 [] d105_19 vt11_277 rfl rfl (Nat.le_of_ble_eq_true rfl) (Nat.le_of_ble_eq_true rfl) h5)
theorem b105_22 {d : Nat} {S : mm_S} {a0 : Nat} {x1 : Int32} {x2 : Int32} {j3 : Int64} {a5 : Nat} {p0 : Int32} : mm_ex d 105 22 [.ref a0, .int x1, .int x2, .long j3, .null, .ref a5] [.int p0] S =
    if p0 = nI 0 then mm_ex d 105 28 [.ref a0, .int x1, .int x2, .long j3, .null, .ref a5] [] S else mm_ex d 105 25 [.ref a0, .int x1, .int x2, .long j3, .null, .ref a5] [] S :=
  (mx_ieq t105 d105_22 (tgt := 28) (by decide))
theorem b105_25 {d : Nat} {S : mm_S} {a0 : Nat} {x1 : Int32} {x2 : Int32} {j3 : Int64} {a5 : Nat} : mm_ex d 105 25 [.ref a0, .int x1, .int x2, .long j3, .null, .ref a5] [] S =
    some (some (.int (-11)), S) :=
  Eq.trans (mx_bipush t105 d105_25 (v := -11) rfl) <|
  (mx_iret t105 d105_27 (ty := .int) rfl rfl (fun h => nomatch h))
theorem b105_28 {d : Nat} {S : mm_S} {a0 : Nat} {x1 : Int32} {x2 : Int32} {j3 : Int64} {a5 : Nat} (h0 : mm_rk S a5 = 8) : mm_ex (d + 1) 105 28 [.ref a0, .int x1, .int x2, .long j3, .null, .ref a5] [] S =
    mm_bd (mm_cl d 62 [.ref a5, .int x2] S) (fun v S2 => mm_ex (d + 1) 105 34 [.ref a0, .int x1, .int x2, .long j3, .null, .ref a5] (v.toList ++ []) S2) :=
  Eq.trans (mx_aload t105 d105_28 (x := a5) rfl) <|
  Eq.trans (mx_iload_n t105 d105_30 (x := x2) rfl) <|
  (mx_virt (st := []) (k := 8) t105 [.int x2] d105_31 vt11_309 rfl rfl (Nat.le_of_ble_eq_true rfl) (Nat.le_of_ble_eq_true rfl) h0)
theorem b105_34 {d : Nat} {S : mm_S} {a0 : Nat} {x1 : Int32} {x2 : Int32} {j3 : Int64} {a5 : Nat} {p0 : Int32} : mm_ex d 105 34 [.ref a0, .int x1, .int x2, .long j3, .null, .ref a5] [.int p0] S =
    if p0 = nI 0 then mm_ex d 105 37 [.ref a0, .int x1, .int x2, .long j3, .null, .ref a5] [] S else mm_ex d 105 40 [.ref a0, .int x1, .int x2, .long j3, .null, .ref a5] [] S :=
  (mx_ine t105 d105_34 (tgt := 40) (by decide))
theorem b105_37 {d : Nat} {S : mm_S} {a0 : Nat} {x1 : Int32} {x2 : Int32} {j3 : Int64} {a5 : Nat} : mm_ex d 105 37 [.ref a0, .int x1, .int x2, .long j3, .null, .ref a5] [] S =
    some (some (.int (-13)), S) :=
  Eq.trans (mx_bipush t105 d105_37 (v := -13) rfl) <|
  (mx_iret t105 d105_39 (ty := .int) rfl rfl (fun h => nomatch h))
theorem b105_40 {d : Nat} {S : mm_S} {a0 : Nat} {x1 : Int32} {x2 : Int32} {j3 : Int64} {a5 : Nat} (h0 : mm_obj S a5 8 = true) (h1 : (mm_R S a5 0).isSome = true) (h2 : mm_rk S a5 = 8) : mm_ex (d + 1) 105 40 [.ref a0, .int x1, .int x2, .long j3, .null, .ref a5] [] S =
    mm_bd (mm_cl d 64 [.ref a5, .long j3] S) (fun v S2 => mm_ex (d + 1) 105 52 [.ref a0, .int x1, .int x2, .long j3, .null, .ref a5] (v.toList ++ [.int x2, .ref (mm_rg S a5 0)]) S2) :=
  Eq.trans (mx_aload t105 d105_40 (x := a5) rfl) <|
  Eq.trans (mx_getR t105 d105_42 rfl fl11_284 h0 h1) <|
  Eq.trans (mx_iload_n t105 d105_45 (x := x2) rfl) <|
  Eq.trans (mx_aload t105 d105_46 (x := a5) rfl) <|
  Eq.trans (mx_lload_n t105 d105_48 (x := j3) rfl) <|
  (mx_virt (st := [.int x2, .ref (mm_rg S a5 0)]) (k := 8) t105 [.long j3] d105_49 vt11_312 rfl rfl (Nat.le_of_ble_eq_true rfl) (Nat.le_of_ble_eq_true rfl) h2)
theorem b105_52 {d : Nat} {S : mm_S} {a0 : Nat} {x1 : Int32} {x2 : Int32} {j3 : Int64} {a5 : Nat} {p0 : Int64} {p1 : Int32} {p2 : Nat} (h0 : mm_arr S p2 14 = true) (h1 : mm_inb p1 (mm_N S p2) = true) : mm_ex d 105 52 [.ref a0, .int x1, .int x2, .long j3, .null, .ref a5] [.long p0, .int p1, .ref p2] S =
    some (some (.int (nI 1)), (mm_uL S p2 (p1).toNatClampNeg p0)) :=
  Eq.trans (mx_last2 t105 d105_52 h0 h1) <|
  Eq.trans (mx_iconst t105 d105_53 (v := nI 1) rfl) <|
  (mx_iret t105 d105_54 (ty := .int) rfl rfl (fun h => nomatch h))
theorem e105 {d : Nat} {S : mm_S} {a0 : Nat} {x1 : Int32} {x2 : Int32} {j3 : Int64} : mm_cl d 105 [.ref a0, .int x1, .int x2, .long j3] S = mm_ex d 105 0 [.ref a0, .int x1, .int x2, .long j3, .null, .null] [] S := mm_cl_eq t105 (Nat.le_of_ble_eq_true rfl) rfl
/-! X11_read -/
theorem d106_0 : decode prog_1_method_35_code 0 = .ok (.iload_n 1, 1) := by decide +kernel
theorem d106_1 : decode prog_1_method_35_code 1 = .ok (.invokestatic 274, 3) := by decide +kernel
theorem d106_4 : decode prog_1_method_35_code 4 = .ok (.ifCond .eq 30, 3) := by decide +kernel
theorem d106_7 : decode prog_1_method_35_code 7 = .ok (.aload_n 0, 1) := by decide +kernel
theorem d106_8 : decode prog_1_method_35_code 8 = .ok (.getfield 45, 3) := by decide +kernel
theorem d106_11 : decode prog_1_method_35_code 11 = .ok (.iload_n 1, 1) := by decide +kernel
theorem d106_12 : decode prog_1_method_35_code 12 = .ok (.aaload, 1) := by decide +kernel
theorem d106_13 : decode prog_1_method_35_code 13 = .ok (.iload_n 2, 1) := by decide +kernel
theorem d106_14 : decode prog_1_method_35_code 14 = .ok (.invokevirtual 309, 3) := by decide +kernel
theorem d106_17 : decode prog_1_method_35_code 17 = .ok (.ifCond .eq 17, 3) := by decide +kernel
theorem d106_20 : decode prog_1_method_35_code 20 = .ok (.aload_n 0, 1) := by decide +kernel
theorem d106_21 : decode prog_1_method_35_code 21 = .ok (.getfield 45, 3) := by decide +kernel
theorem d106_24 : decode prog_1_method_35_code 24 = .ok (.iload_n 1, 1) := by decide +kernel
theorem d106_25 : decode prog_1_method_35_code 25 = .ok (.aaload, 1) := by decide +kernel
theorem d106_26 : decode prog_1_method_35_code 26 = .ok (.getfield 284, 3) := by decide +kernel
theorem d106_29 : decode prog_1_method_35_code 29 = .ok (.iload_n 2, 1) := by decide +kernel
theorem d106_30 : decode prog_1_method_35_code 30 = .ok (.laload, 1) := by decide +kernel
theorem d106_31 : decode prog_1_method_35_code 31 = .ok (.goto 6, 3) := by decide +kernel
theorem d106_34 : decode prog_1_method_35_code 34 = .ok (.ldc2_w 224, 3) := by decide +kernel
theorem d106_37 : decode prog_1_method_35_code 37 = .ok (.lreturn, 1) := by decide +kernel
theorem b106_0 {d : Nat} {S : mm_S} {a0 : Nat} {x1 : Int32} {x2 : Int32} : mm_ex (d + 1) 106 0 [.ref a0, .int x1, .int x2] [] S =
    mm_bd (mm_cl d 109 [.int x1] S) (fun v S2 => mm_ex (d + 1) 106 4 [.ref a0, .int x1, .int x2] (v.toList ++ []) S2) :=
  Eq.trans (mx_iload_n t106 d106_0 (x := x1) rfl) <|
  (mx_stat (st := []) t106 [.int x1] d106_1 acn11_274 mxn11_274 st11_274 rfl (Nat.le_of_ble_eq_true rfl) (Nat.le_of_ble_eq_true rfl))
theorem b106_4 {d : Nat} {S : mm_S} {a0 : Nat} {x1 : Int32} {x2 : Int32} {p0 : Int32} : mm_ex d 106 4 [.ref a0, .int x1, .int x2] [.int p0] S =
    if p0 = nI 0 then mm_ex d 106 34 [.ref a0, .int x1, .int x2] [] S else mm_ex d 106 7 [.ref a0, .int x1, .int x2] [] S :=
  (mx_ieq t106 d106_4 (tgt := 34) (by decide))
theorem b106_7 {d : Nat} {S : mm_S} {a0 : Nat} {x1 : Int32} {x2 : Int32} (h0 : mm_obj S a0 11 = true) (h1 : (mm_R S a0 6).isSome = true) (h2 : mm_inb x1 (mm_N S (mm_rg S a0 6)) = true) (h3 : (mm_arr S (mm_rg S a0 6) 16 || mm_arr S (mm_rg S a0 6) 17 || mm_arr S (mm_rg S a0 6) 18) = true) (h4 : (mm_R S (mm_rg S a0 6) (x1).toNatClampNeg).isSome = true) (h5 : mm_rk S (mm_rg S (mm_rg S a0 6) (x1).toNatClampNeg) = 8) : mm_ex (d + 1) 106 7 [.ref a0, .int x1, .int x2] [] S =
    mm_bd (mm_cl d 62 [.ref (mm_rg S (mm_rg S a0 6) (x1).toNatClampNeg), .int x2] S) (fun v S2 => mm_ex (d + 1) 106 17 [.ref a0, .int x1, .int x2] (v.toList ++ []) S2) :=
  Eq.trans (mx_aload_n t106 d106_7 (x := a0) rfl) <|
  Eq.trans (mx_getR t106 d106_8 rfl fl11_45 h0 h1) <|
  Eq.trans (mx_iload_n t106 d106_11 (x := x1) rfl) <|
  Eq.trans (mx_qaldR t106 d106_12 h3 h2 h4) <|
  Eq.trans (mx_iload_n t106 d106_13 (x := x2) rfl) <|
  (mx_virt (st := []) (k := 8) t106 [.int x2] d106_14 vt11_309 rfl rfl (Nat.le_of_ble_eq_true rfl) (Nat.le_of_ble_eq_true rfl) h5)
theorem b106_17 {d : Nat} {S : mm_S} {a0 : Nat} {x1 : Int32} {x2 : Int32} {p0 : Int32} : mm_ex d 106 17 [.ref a0, .int x1, .int x2] [.int p0] S =
    if p0 = nI 0 then mm_ex d 106 34 [.ref a0, .int x1, .int x2] [] S else mm_ex d 106 20 [.ref a0, .int x1, .int x2] [] S :=
  (mx_ieq t106 d106_17 (tgt := 34) (by decide))
theorem b106_20 {d : Nat} {S : mm_S} {a0 : Nat} {x1 : Int32} {x2 : Int32} (h0 : mm_obj S a0 11 = true) (h1 : (mm_R S a0 6).isSome = true) (h2 : mm_inb x1 (mm_N S (mm_rg S a0 6)) = true) (h3 : (mm_arr S (mm_rg S a0 6) 16 || mm_arr S (mm_rg S a0 6) 17 || mm_arr S (mm_rg S a0 6) 18) = true) (h4 : (mm_R S (mm_rg S a0 6) (x1).toNatClampNeg).isSome = true) (h5 : mm_obj S (mm_rg S (mm_rg S a0 6) (x1).toNatClampNeg) 8 = true) (h6 : (mm_R S (mm_rg S (mm_rg S a0 6) (x1).toNatClampNeg) 0).isSome = true) (h7 : mm_inb x2 (mm_N S (mm_rg S (mm_rg S (mm_rg S a0 6) (x1).toNatClampNeg) 0)) = true) (h8 : mm_arr S (mm_rg S (mm_rg S (mm_rg S a0 6) (x1).toNatClampNeg) 0) 14 = true) : mm_ex d 106 20 [.ref a0, .int x1, .int x2] [] S =
    some (some (.long (mm_L S (mm_rg S (mm_rg S (mm_rg S a0 6) (x1).toNatClampNeg) 0) (x2).toNatClampNeg)), S) :=
  Eq.trans (mx_aload_n t106 d106_20 (x := a0) rfl) <|
  Eq.trans (mx_getR t106 d106_21 rfl fl11_45 h0 h1) <|
  Eq.trans (mx_iload_n t106 d106_24 (x := x1) rfl) <|
  Eq.trans (mx_qaldR t106 d106_25 h3 h2 h4) <|
  Eq.trans (mx_getR t106 d106_26 rfl fl11_284 h5 h6) <|
  Eq.trans (mx_iload_n t106 d106_29 (x := x2) rfl) <|
  Eq.trans (mx_lald t106 d106_30 h8 h7) <|
  Eq.trans (mx_goto t106 d106_31 (tgt := 37) (by decide)) <|
  (mx_lret t106 d106_37 rfl)
theorem b106_34 {d : Nat} {S : mm_S} {a0 : Nat} {x1 : Int32} {x2 : Int32} : mm_ex d 106 34 [.ref a0, .int x1, .int x2] [] S =
    some (some (.long (-9223372036854775808)), S) :=
  Eq.trans (mx_ldc2_w t106 d106_34 (v := -9223372036854775808) l211_224) <|
  (mx_lret t106 d106_37 rfl)
theorem e106 {d : Nat} {S : mm_S} {a0 : Nat} {x1 : Int32} {x2 : Int32} : mm_cl d 106 [.ref a0, .int x1, .int x2] S = mm_ex d 106 0 [.ref a0, .int x1, .int x2] [] S := mm_cl_eq t106 (Nat.le_of_ble_eq_true rfl) rfl
/-! X11_shift -/
theorem dd107_0 : (decode prog_1_method_36_code 0 = .ok (.iload_n 1, 1)) ∧ (decode prog_1_method_36_code 1 = .ok (.invokestatic 274, 3)) ∧ (decode prog_1_method_36_code 4 = .ok (.ifCond .eq 10, 3)) ∧ (decode prog_1_method_36_code 7 = .ok (.iload_n 3, 1)) ∧ (decode prog_1_method_36_code 8 = .ok (.invokestatic 274, 3)) ∧ (decode prog_1_method_36_code 11 = .ok (.ifCond .ne 5, 3)) ∧ (decode prog_1_method_36_code 14 = .ok (.iconst (-1), 1)) ∧ (decode prog_1_method_36_code 15 = .ok (.ireturn, 1)) ∧ (decode prog_1_method_36_code 16 = .ok (.aload_n 0, 1)) ∧ (decode prog_1_method_36_code 17 = .ok (.getfield 45, 3)) ∧ (decode prog_1_method_36_code 20 = .ok (.iload_n 1, 1)) ∧ (decode prog_1_method_36_code 21 = .ok (.aaload, 1)) ∧ (decode prog_1_method_36_code 22 = .ok (.astore 6, 2)) ∧ (decode prog_1_method_36_code 24 = .ok (.aload_n 0, 1)) ∧ (decode prog_1_method_36_code 25 = .ok (.getfield 45, 3)) ∧ (decode prog_1_method_36_code 28 = .ok (.iload_n 3, 1)) := by decide +kernel
theorem d107_0 : decode prog_1_method_36_code 0 = .ok (.iload_n 1, 1) := dd107_0.1
theorem d107_1 : decode prog_1_method_36_code 1 = .ok (.invokestatic 274, 3) := dd107_0.2.1
theorem d107_4 : decode prog_1_method_36_code 4 = .ok (.ifCond .eq 10, 3) := dd107_0.2.2.1
theorem d107_7 : decode prog_1_method_36_code 7 = .ok (.iload_n 3, 1) := dd107_0.2.2.2.1
theorem d107_8 : decode prog_1_method_36_code 8 = .ok (.invokestatic 274, 3) := dd107_0.2.2.2.2.1
theorem d107_11 : decode prog_1_method_36_code 11 = .ok (.ifCond .ne 5, 3) := dd107_0.2.2.2.2.2.1
theorem d107_14 : decode prog_1_method_36_code 14 = .ok (.iconst (-1), 1) := dd107_0.2.2.2.2.2.2.1
theorem d107_15 : decode prog_1_method_36_code 15 = .ok (.ireturn, 1) := dd107_0.2.2.2.2.2.2.2.1
theorem d107_16 : decode prog_1_method_36_code 16 = .ok (.aload_n 0, 1) := dd107_0.2.2.2.2.2.2.2.2.1
theorem d107_17 : decode prog_1_method_36_code 17 = .ok (.getfield 45, 3) := dd107_0.2.2.2.2.2.2.2.2.2.1
theorem d107_20 : decode prog_1_method_36_code 20 = .ok (.iload_n 1, 1) := dd107_0.2.2.2.2.2.2.2.2.2.2.1
theorem d107_21 : decode prog_1_method_36_code 21 = .ok (.aaload, 1) := dd107_0.2.2.2.2.2.2.2.2.2.2.2.1
theorem d107_22 : decode prog_1_method_36_code 22 = .ok (.astore 6, 2) := dd107_0.2.2.2.2.2.2.2.2.2.2.2.2.1
theorem d107_24 : decode prog_1_method_36_code 24 = .ok (.aload_n 0, 1) := dd107_0.2.2.2.2.2.2.2.2.2.2.2.2.2.1
theorem d107_25 : decode prog_1_method_36_code 25 = .ok (.getfield 45, 3) := dd107_0.2.2.2.2.2.2.2.2.2.2.2.2.2.2.1
theorem d107_28 : decode prog_1_method_36_code 28 = .ok (.iload_n 3, 1) := dd107_0.2.2.2.2.2.2.2.2.2.2.2.2.2.2.2
theorem dd107_29 : (decode prog_1_method_36_code 29 = .ok (.aaload, 1)) ∧ (decode prog_1_method_36_code 30 = .ok (.astore 7, 2)) ∧ (decode prog_1_method_36_code 32 = .ok (.aload 6, 2)) ∧ (decode prog_1_method_36_code 34 = .ok (.invokevirtual 277, 3)) ∧ (decode prog_1_method_36_code 37 = .ok (.ifCond .ne 11, 3)) ∧ (decode prog_1_method_36_code 40 = .ok (.aload 7, 2)) ∧ (decode prog_1_method_36_code 42 = .ok (.invokevirtual 277, 3)) ∧ (decode prog_1_method_36_code 45 = .ok (.ifCond .eq 6, 3)) ∧ (decode prog_1_method_36_code 48 = .ok (.bipush (-11), 2)) ∧ (decode prog_1_method_36_code 50 = .ok (.ireturn, 1)) ∧ (decode prog_1_method_36_code 51 = .ok (.aload 6, 2)) ∧ (decode prog_1_method_36_code 53 = .ok (.getfield 280, 3)) ∧ (decode prog_1_method_36_code 56 = .ok (.aload 7, 2)) ∧ (decode prog_1_method_36_code 58 = .ok (.getfield 280, 3)) ∧ (decode prog_1_method_36_code 61 = .ok (.if_icmp .eq 6, 3)) ∧ (decode prog_1_method_36_code 64 = .ok (.bipush (-12), 2)) := by decide +kernel
theorem d107_29 : decode prog_1_method_36_code 29 = .ok (.aaload, 1) := dd107_29.1
theorem d107_30 : decode prog_1_method_36_code 30 = .ok (.astore 7, 2) := dd107_29.2.1
theorem d107_32 : decode prog_1_method_36_code 32 = .ok (.aload 6, 2) := dd107_29.2.2.1
theorem d107_34 : decode prog_1_method_36_code 34 = .ok (.invokevirtual 277, 3) := dd107_29.2.2.2.1
theorem d107_37 : decode prog_1_method_36_code 37 = .ok (.ifCond .ne 11, 3) := dd107_29.2.2.2.2.1
theorem d107_40 : decode prog_1_method_36_code 40 = .ok (.aload 7, 2) := dd107_29.2.2.2.2.2.1
theorem d107_42 : decode prog_1_method_36_code 42 = .ok (.invokevirtual 277, 3) := dd107_29.2.2.2.2.2.2.1
theorem d107_45 : decode prog_1_method_36_code 45 = .ok (.ifCond .eq 6, 3) := dd107_29.2.2.2.2.2.2.2.1
theorem d107_48 : decode prog_1_method_36_code 48 = .ok (.bipush (-11), 2) := dd107_29.2.2.2.2.2.2.2.2.1
theorem d107_50 : decode prog_1_method_36_code 50 = .ok (.ireturn, 1) := dd107_29.2.2.2.2.2.2.2.2.2.1
theorem d107_51 : decode prog_1_method_36_code 51 = .ok (.aload 6, 2) := dd107_29.2.2.2.2.2.2.2.2.2.2.1
theorem d107_53 : decode prog_1_method_36_code 53 = .ok (.getfield 280, 3) := dd107_29.2.2.2.2.2.2.2.2.2.2.2.1
theorem d107_56 : decode prog_1_method_36_code 56 = .ok (.aload 7, 2) := dd107_29.2.2.2.2.2.2.2.2.2.2.2.2.1
theorem d107_58 : decode prog_1_method_36_code 58 = .ok (.getfield 280, 3) := dd107_29.2.2.2.2.2.2.2.2.2.2.2.2.2.1
theorem d107_61 : decode prog_1_method_36_code 61 = .ok (.if_icmp .eq 6, 3) := dd107_29.2.2.2.2.2.2.2.2.2.2.2.2.2.2.1
theorem d107_64 : decode prog_1_method_36_code 64 = .ok (.bipush (-12), 2) := dd107_29.2.2.2.2.2.2.2.2.2.2.2.2.2.2.2
theorem dd107_66 : (decode prog_1_method_36_code 66 = .ok (.ireturn, 1)) ∧ (decode prog_1_method_36_code 67 = .ok (.aload 6, 2)) ∧ (decode prog_1_method_36_code 69 = .ok (.iload_n 2, 1)) ∧ (decode prog_1_method_36_code 70 = .ok (.iload 5, 2)) ∧ (decode prog_1_method_36_code 72 = .ok (.invokevirtual 316, 3)) ∧ (decode prog_1_method_36_code 75 = .ok (.ifCond .eq 15, 3)) ∧ (decode prog_1_method_36_code 78 = .ok (.aload 7, 2)) ∧ (decode prog_1_method_36_code 80 = .ok (.iload 4, 2)) ∧ (decode prog_1_method_36_code 82 = .ok (.iload 5, 2)) ∧ (decode prog_1_method_36_code 84 = .ok (.invokevirtual 316, 3)) ∧ (decode prog_1_method_36_code 87 = .ok (.ifCond .ne 6, 3)) ∧ (decode prog_1_method_36_code 90 = .ok (.bipush (-13), 2)) ∧ (decode prog_1_method_36_code 92 = .ok (.ireturn, 1)) ∧ (decode prog_1_method_36_code 93 = .ok (.aload 6, 2)) ∧ (decode prog_1_method_36_code 95 = .ok (.getfield 284, 3)) ∧ (decode prog_1_method_36_code 98 = .ok (.iload_n 2, 1)) := by decide +kernel
theorem d107_66 : decode prog_1_method_36_code 66 = .ok (.ireturn, 1) := dd107_66.1
theorem d107_67 : decode prog_1_method_36_code 67 = .ok (.aload 6, 2) := dd107_66.2.1
theorem d107_69 : decode prog_1_method_36_code 69 = .ok (.iload_n 2, 1) := dd107_66.2.2.1
theorem d107_70 : decode prog_1_method_36_code 70 = .ok (.iload 5, 2) := dd107_66.2.2.2.1
theorem d107_72 : decode prog_1_method_36_code 72 = .ok (.invokevirtual 316, 3) := dd107_66.2.2.2.2.1
theorem d107_75 : decode prog_1_method_36_code 75 = .ok (.ifCond .eq 15, 3) := dd107_66.2.2.2.2.2.1
theorem d107_78 : decode prog_1_method_36_code 78 = .ok (.aload 7, 2) := dd107_66.2.2.2.2.2.2.1
theorem d107_80 : decode prog_1_method_36_code 80 = .ok (.iload 4, 2) := dd107_66.2.2.2.2.2.2.2.1
theorem d107_82 : decode prog_1_method_36_code 82 = .ok (.iload 5, 2) := dd107_66.2.2.2.2.2.2.2.2.1
theorem d107_84 : decode prog_1_method_36_code 84 = .ok (.invokevirtual 316, 3) := dd107_66.2.2.2.2.2.2.2.2.2.1
theorem d107_87 : decode prog_1_method_36_code 87 = .ok (.ifCond .ne 6, 3) := dd107_66.2.2.2.2.2.2.2.2.2.2.1
theorem d107_90 : decode prog_1_method_36_code 90 = .ok (.bipush (-13), 2) := dd107_66.2.2.2.2.2.2.2.2.2.2.2.1
theorem d107_92 : decode prog_1_method_36_code 92 = .ok (.ireturn, 1) := dd107_66.2.2.2.2.2.2.2.2.2.2.2.2.1
theorem d107_93 : decode prog_1_method_36_code 93 = .ok (.aload 6, 2) := dd107_66.2.2.2.2.2.2.2.2.2.2.2.2.2.1
theorem d107_95 : decode prog_1_method_36_code 95 = .ok (.getfield 284, 3) := dd107_66.2.2.2.2.2.2.2.2.2.2.2.2.2.2.1
theorem d107_98 : decode prog_1_method_36_code 98 = .ok (.iload_n 2, 1) := dd107_66.2.2.2.2.2.2.2.2.2.2.2.2.2.2.2
theorem dd107_99 : (decode prog_1_method_36_code 99 = .ok (.aload 7, 2)) ∧ (decode prog_1_method_36_code 101 = .ok (.getfield 284, 3)) ∧ (decode prog_1_method_36_code 104 = .ok (.iload 4, 2)) ∧ (decode prog_1_method_36_code 106 = .ok (.iload 5, 2)) ∧ (decode prog_1_method_36_code 108 = .ok (.invokestatic 320, 3)) ∧ (decode prog_1_method_36_code 111 = .ok (.iload 5, 2)) ∧ (decode prog_1_method_36_code 113 = .ok (.ireturn, 1)) := by decide +kernel
theorem d107_99 : decode prog_1_method_36_code 99 = .ok (.aload 7, 2) := dd107_99.1
theorem d107_101 : decode prog_1_method_36_code 101 = .ok (.getfield 284, 3) := dd107_99.2.1
theorem d107_104 : decode prog_1_method_36_code 104 = .ok (.iload 4, 2) := dd107_99.2.2.1
theorem d107_106 : decode prog_1_method_36_code 106 = .ok (.iload 5, 2) := dd107_99.2.2.2.1
theorem d107_108 : decode prog_1_method_36_code 108 = .ok (.invokestatic 320, 3) := dd107_99.2.2.2.2.1
theorem d107_111 : decode prog_1_method_36_code 111 = .ok (.iload 5, 2) := dd107_99.2.2.2.2.2.1
theorem d107_113 : decode prog_1_method_36_code 113 = .ok (.ireturn, 1) := dd107_99.2.2.2.2.2.2
theorem b107_0 {d : Nat} {S : mm_S} {a0 : Nat} {x1 : Int32} {x2 : Int32} {x3 : Int32} {x4 : Int32} {x5 : Int32} : mm_ex (d + 1) 107 0 [.ref a0, .int x1, .int x2, .int x3, .int x4, .int x5, .null, .null] [] S =
    mm_bd (mm_cl d 109 [.int x1] S) (fun v S2 => mm_ex (d + 1) 107 4 [.ref a0, .int x1, .int x2, .int x3, .int x4, .int x5, .null, .null] (v.toList ++ []) S2) :=
  Eq.trans (mx_iload_n t107 d107_0 (x := x1) rfl) <|
  (mx_stat (st := []) t107 [.int x1] d107_1 acn11_274 mxn11_274 st11_274 rfl (Nat.le_of_ble_eq_true rfl) (Nat.le_of_ble_eq_true rfl))
theorem b107_4 {d : Nat} {S : mm_S} {a0 : Nat} {x1 : Int32} {x2 : Int32} {x3 : Int32} {x4 : Int32} {x5 : Int32} {p0 : Int32} : mm_ex d 107 4 [.ref a0, .int x1, .int x2, .int x3, .int x4, .int x5, .null, .null] [.int p0] S =
    if p0 = nI 0 then mm_ex d 107 14 [.ref a0, .int x1, .int x2, .int x3, .int x4, .int x5, .null, .null] [] S else mm_ex d 107 7 [.ref a0, .int x1, .int x2, .int x3, .int x4, .int x5, .null, .null] [] S :=
  (mx_ieq t107 d107_4 (tgt := 14) (by decide))
theorem b107_7 {d : Nat} {S : mm_S} {a0 : Nat} {x1 : Int32} {x2 : Int32} {x3 : Int32} {x4 : Int32} {x5 : Int32} : mm_ex (d + 1) 107 7 [.ref a0, .int x1, .int x2, .int x3, .int x4, .int x5, .null, .null] [] S =
    mm_bd (mm_cl d 109 [.int x3] S) (fun v S2 => mm_ex (d + 1) 107 11 [.ref a0, .int x1, .int x2, .int x3, .int x4, .int x5, .null, .null] (v.toList ++ []) S2) :=
  Eq.trans (mx_iload_n t107 d107_7 (x := x3) rfl) <|
  (mx_stat (st := []) t107 [.int x3] d107_8 acn11_274 mxn11_274 st11_274 rfl (Nat.le_of_ble_eq_true rfl) (Nat.le_of_ble_eq_true rfl))
theorem b107_11 {d : Nat} {S : mm_S} {a0 : Nat} {x1 : Int32} {x2 : Int32} {x3 : Int32} {x4 : Int32} {x5 : Int32} {p0 : Int32} : mm_ex d 107 11 [.ref a0, .int x1, .int x2, .int x3, .int x4, .int x5, .null, .null] [.int p0] S =
    if p0 = nI 0 then mm_ex d 107 14 [.ref a0, .int x1, .int x2, .int x3, .int x4, .int x5, .null, .null] [] S else mm_ex d 107 16 [.ref a0, .int x1, .int x2, .int x3, .int x4, .int x5, .null, .null] [] S :=
  (mx_ine t107 d107_11 (tgt := 16) (by decide))
theorem b107_14 {d : Nat} {S : mm_S} {a0 : Nat} {x1 : Int32} {x2 : Int32} {x3 : Int32} {x4 : Int32} {x5 : Int32} : mm_ex d 107 14 [.ref a0, .int x1, .int x2, .int x3, .int x4, .int x5, .null, .null] [] S =
    some (some (.int (-1)), S) :=
  Eq.trans (mx_iconst t107 d107_14 (v := -1) rfl) <|
  (mx_iret t107 d107_15 (ty := .int) rfl rfl (fun h => nomatch h))
theorem b107_16 {d : Nat} {S : mm_S} {a0 : Nat} {x1 : Int32} {x2 : Int32} {x3 : Int32} {x4 : Int32} {x5 : Int32} (h0 : mm_obj S a0 11 = true) (h1 : (mm_R S a0 6).isSome = true) (h2 : mm_inb x1 (mm_N S (mm_rg S a0 6)) = true) (h3 : (mm_arr S (mm_rg S a0 6) 16 || mm_arr S (mm_rg S a0 6) 17 || mm_arr S (mm_rg S a0 6) 18) = true) (h4 : (mm_R S (mm_rg S a0 6) (x1).toNatClampNeg).isSome = true) (h5 : mm_inb x3 (mm_N S (mm_rg S a0 6)) = true) (h6 : (mm_R S (mm_rg S a0 6) (x3).toNatClampNeg).isSome = true) (h7 : mm_rk S (mm_rg S (mm_rg S a0 6) (x1).toNatClampNeg) = 8) : mm_ex (d + 1) 107 16 [.ref a0, .int x1, .int x2, .int x3, .int x4, .int x5, .null, .null] [] S =
    mm_bd (mm_cl d 61 [.ref (mm_rg S (mm_rg S a0 6) (x1).toNatClampNeg)] S) (fun v S2 => mm_ex (d + 1) 107 37 [.ref a0, .int x1, .int x2, .int x3, .int x4, .int x5, .ref (mm_rg S (mm_rg S a0 6) (x1).toNatClampNeg), .ref (mm_rg S (mm_rg S a0 6) (x3).toNatClampNeg)] (v.toList ++ []) S2) :=
  Eq.trans (mx_aload_n t107 d107_16 (x := a0) rfl) <|
  Eq.trans (mx_getR t107 d107_17 rfl fl11_45 h0 h1) <|
  Eq.trans (mx_iload_n t107 d107_20 (x := x1) rfl) <|
  Eq.trans (mx_qaldR t107 d107_21 h3 h2 h4) <|
  Eq.trans (mx_astore t107 d107_22 (ls' := [.ref a0, .int x1, .int x2, .int x3, .int x4, .int x5, .ref (mm_rg S (mm_rg S a0 6) (x1).toNatClampNeg), .null]) rfl rfl) <|
  Eq.trans (mx_aload_n t107 d107_24 (x := a0) rfl) <|
  Eq.trans (mx_getR t107 d107_25 rfl fl11_45 h0 h1) <|
  Eq.trans (mx_iload_n t107 d107_28 (x := x3) rfl) <|
  Eq.trans (mx_qaldR t107 d107_29 h3 h5 h6) <|
  Eq.trans (mx_astore t107 d107_30 (ls' := [.ref a0, .int x1, .int x2, .int x3, .int x4, .int x5, .ref (mm_rg S (mm_rg S a0 6) (x1).toNatClampNeg), .ref (mm_rg S (mm_rg S a0 6) (x3).toNatClampNeg)]) rfl rfl) <|
  Eq.trans (mx_aload t107 d107_32 (x := mm_rg S (mm_rg S a0 6) (x1).toNatClampNeg) rfl) <|
  (mx_virt (st := []) (k := 8) t107 [] d107_34 vt11_277 rfl rfl (Nat.le_of_ble_eq_true rfl) (Nat.le_of_ble_eq_true rfl) h7)
theorem b107_37 {d : Nat} {S : mm_S} {a0 : Nat} {x1 : Int32} {x2 : Int32} {x3 : Int32} {x4 : Int32} {x5 : Int32} {a6 : Nat} {a7 : Nat} {p0 : Int32} : mm_ex d 107 37 [.ref a0, .int x1, .int x2, .int x3, .int x4, .int x5, .ref a6, .ref a7] [.int p0] S =
    if p0 = nI 0 then mm_ex d 107 40 [.ref a0, .int x1, .int x2, .int x3, .int x4, .int x5, .ref a6, .ref a7] [] S else mm_ex d 107 48 [.ref a0, .int x1, .int x2, .int x3, .int x4, .int x5, .ref a6, .ref a7] [] S :=
  (mx_ine t107 d107_37 (tgt := 48) (by decide))
theorem b107_40 {d : Nat} {S : mm_S} {a0 : Nat} {x1 : Int32} {x2 : Int32} {x3 : Int32} {x4 : Int32} {x5 : Int32} {a6 : Nat} {a7 : Nat} (h0 : mm_rk S a7 = 8) : mm_ex (d + 1) 107 40 [.ref a0, .int x1, .int x2, .int x3, .int x4, .int x5, .ref a6, .ref a7] [] S =
    mm_bd (mm_cl d 61 [.ref a7] S) (fun v S2 => mm_ex (d + 1) 107 45 [.ref a0, .int x1, .int x2, .int x3, .int x4, .int x5, .ref a6, .ref a7] (v.toList ++ []) S2) :=
  Eq.trans (mx_aload t107 d107_40 (x := a7) rfl) <|
  (mx_virt (st := []) (k := 8) t107 [] d107_42 vt11_277 rfl rfl (Nat.le_of_ble_eq_true rfl) (Nat.le_of_ble_eq_true rfl) h0)
theorem b107_45 {d : Nat} {S : mm_S} {a0 : Nat} {x1 : Int32} {x2 : Int32} {x3 : Int32} {x4 : Int32} {x5 : Int32} {a6 : Nat} {a7 : Nat} {p0 : Int32} : mm_ex d 107 45 [.ref a0, .int x1, .int x2, .int x3, .int x4, .int x5, .ref a6, .ref a7] [.int p0] S =
    if p0 = nI 0 then mm_ex d 107 51 [.ref a0, .int x1, .int x2, .int x3, .int x4, .int x5, .ref a6, .ref a7] [] S else mm_ex d 107 48 [.ref a0, .int x1, .int x2, .int x3, .int x4, .int x5, .ref a6, .ref a7] [] S :=
  (mx_ieq t107 d107_45 (tgt := 51) (by decide))
theorem b107_48 {d : Nat} {S : mm_S} {a0 : Nat} {x1 : Int32} {x2 : Int32} {x3 : Int32} {x4 : Int32} {x5 : Int32} {a6 : Nat} {a7 : Nat} : mm_ex d 107 48 [.ref a0, .int x1, .int x2, .int x3, .int x4, .int x5, .ref a6, .ref a7] [] S =
    some (some (.int (-11)), S) :=
  Eq.trans (mx_bipush t107 d107_48 (v := -11) rfl) <|
  (mx_iret t107 d107_50 (ty := .int) rfl rfl (fun h => nomatch h))
theorem b107_51 {d : Nat} {S : mm_S} {a0 : Nat} {x1 : Int32} {x2 : Int32} {x3 : Int32} {x4 : Int32} {x5 : Int32} {a6 : Nat} {a7 : Nat} (h0 : mm_obj S a6 8 = true) (h1 : mm_obj S a7 8 = true) : mm_ex d 107 51 [.ref a0, .int x1, .int x2, .int x3, .int x4, .int x5, .ref a6, .ref a7] [] S =
    if (mm_M S a6 1) = (mm_M S a7 1) then mm_ex d 107 67 [.ref a0, .int x1, .int x2, .int x3, .int x4, .int x5, .ref a6, .ref a7] [] S else mm_ex d 107 64 [.ref a0, .int x1, .int x2, .int x3, .int x4, .int x5, .ref a6, .ref a7] [] S :=
  Eq.trans (mx_aload t107 d107_51 (x := a6) rfl) <|
  Eq.trans (mx_geti t107 d107_53 rfl fl11_280 h0) <|
  Eq.trans (mx_aload t107 d107_56 (x := a7) rfl) <|
  Eq.trans (mx_geti t107 d107_58 rfl fl11_280 h1) <|
  (mx_ceq t107 d107_61 (tgt := 67) (by decide))
theorem b107_64 {d : Nat} {S : mm_S} {a0 : Nat} {x1 : Int32} {x2 : Int32} {x3 : Int32} {x4 : Int32} {x5 : Int32} {a6 : Nat} {a7 : Nat} : mm_ex d 107 64 [.ref a0, .int x1, .int x2, .int x3, .int x4, .int x5, .ref a6, .ref a7] [] S =
    some (some (.int (-12)), S) :=
  Eq.trans (mx_bipush t107 d107_64 (v := -12) rfl) <|
  (mx_iret t107 d107_66 (ty := .int) rfl rfl (fun h => nomatch h))
theorem b107_67 {d : Nat} {S : mm_S} {a0 : Nat} {x1 : Int32} {x2 : Int32} {x3 : Int32} {x4 : Int32} {x5 : Int32} {a6 : Nat} {a7 : Nat} (h0 : mm_rk S a6 = 8) : mm_ex (d + 1) 107 67 [.ref a0, .int x1, .int x2, .int x3, .int x4, .int x5, .ref a6, .ref a7] [] S =
    mm_bd (mm_cl d 63 [.ref a6, .int x2, .int x5] S) (fun v S2 => mm_ex (d + 1) 107 75 [.ref a0, .int x1, .int x2, .int x3, .int x4, .int x5, .ref a6, .ref a7] (v.toList ++ []) S2) :=
  Eq.trans (mx_aload t107 d107_67 (x := a6) rfl) <|
  Eq.trans (mx_iload_n t107 d107_69 (x := x2) rfl) <|
  Eq.trans (mx_iload t107 d107_70 (x := x5) rfl) <|
  (mx_virt (st := []) (k := 8) t107 [.int x2, .int x5] d107_72 vt11_316 rfl rfl (Nat.le_of_ble_eq_true rfl) (Nat.le_of_ble_eq_true rfl) h0)
theorem b107_75 {d : Nat} {S : mm_S} {a0 : Nat} {x1 : Int32} {x2 : Int32} {x3 : Int32} {x4 : Int32} {x5 : Int32} {a6 : Nat} {a7 : Nat} {p0 : Int32} : mm_ex d 107 75 [.ref a0, .int x1, .int x2, .int x3, .int x4, .int x5, .ref a6, .ref a7] [.int p0] S =
    if p0 = nI 0 then mm_ex d 107 90 [.ref a0, .int x1, .int x2, .int x3, .int x4, .int x5, .ref a6, .ref a7] [] S else mm_ex d 107 78 [.ref a0, .int x1, .int x2, .int x3, .int x4, .int x5, .ref a6, .ref a7] [] S :=
  (mx_ieq t107 d107_75 (tgt := 90) (by decide))
theorem b107_78 {d : Nat} {S : mm_S} {a0 : Nat} {x1 : Int32} {x2 : Int32} {x3 : Int32} {x4 : Int32} {x5 : Int32} {a6 : Nat} {a7 : Nat} (h0 : mm_rk S a7 = 8) : mm_ex (d + 1) 107 78 [.ref a0, .int x1, .int x2, .int x3, .int x4, .int x5, .ref a6, .ref a7] [] S =
    mm_bd (mm_cl d 63 [.ref a7, .int x4, .int x5] S) (fun v S2 => mm_ex (d + 1) 107 87 [.ref a0, .int x1, .int x2, .int x3, .int x4, .int x5, .ref a6, .ref a7] (v.toList ++ []) S2) :=
  Eq.trans (mx_aload t107 d107_78 (x := a7) rfl) <|
  Eq.trans (mx_iload t107 d107_80 (x := x4) rfl) <|
  Eq.trans (mx_iload t107 d107_82 (x := x5) rfl) <|
  (mx_virt (st := []) (k := 8) t107 [.int x4, .int x5] d107_84 vt11_316 rfl rfl (Nat.le_of_ble_eq_true rfl) (Nat.le_of_ble_eq_true rfl) h0)
theorem b107_87 {d : Nat} {S : mm_S} {a0 : Nat} {x1 : Int32} {x2 : Int32} {x3 : Int32} {x4 : Int32} {x5 : Int32} {a6 : Nat} {a7 : Nat} {p0 : Int32} : mm_ex d 107 87 [.ref a0, .int x1, .int x2, .int x3, .int x4, .int x5, .ref a6, .ref a7] [.int p0] S =
    if p0 = nI 0 then mm_ex d 107 90 [.ref a0, .int x1, .int x2, .int x3, .int x4, .int x5, .ref a6, .ref a7] [] S else mm_ex d 107 93 [.ref a0, .int x1, .int x2, .int x3, .int x4, .int x5, .ref a6, .ref a7] [] S :=
  (mx_ine t107 d107_87 (tgt := 93) (by decide))
theorem b107_90 {d : Nat} {S : mm_S} {a0 : Nat} {x1 : Int32} {x2 : Int32} {x3 : Int32} {x4 : Int32} {x5 : Int32} {a6 : Nat} {a7 : Nat} : mm_ex d 107 90 [.ref a0, .int x1, .int x2, .int x3, .int x4, .int x5, .ref a6, .ref a7] [] S =
    some (some (.int (-13)), S) :=
  Eq.trans (mx_bipush t107 d107_90 (v := -13) rfl) <|
  (mx_iret t107 d107_92 (ty := .int) rfl rfl (fun h => nomatch h))
theorem b107_93 {d : Nat} {S : mm_S} {a0 : Nat} {x1 : Int32} {x2 : Int32} {x3 : Int32} {x4 : Int32} {x5 : Int32} {a6 : Nat} {a7 : Nat} (h0 : mm_obj S a6 8 = true) (h1 : (mm_R S a6 0).isSome = true) (h2 : mm_obj S a7 8 = true) (h3 : (mm_R S a7 0).isSome = true) (h4 : mm_arr S (mm_rg S a6 0) 14 = true) (h5 : mm_arr S (mm_rg S a7 0) 14 = true) (h6 : mm_cpOk x2 x4 x5 (mm_N S (mm_rg S a6 0)) (mm_N S (mm_rg S a7 0)) = true) : mm_ex (d + 1) 107 93 [.ref a0, .int x1, .int x2, .int x3, .int x4, .int x5, .ref a6, .ref a7] [] S =
    some (some (.int x5), (mm_cpL S (mm_rg S a6 0) (mm_rg S a7 0) (x2).toNatClampNeg (x4).toNatClampNeg (x5).toNatClampNeg)) :=
  Eq.trans (mx_aload t107 d107_93 (x := a6) rfl) <|
  Eq.trans (mx_getR t107 d107_95 rfl fl11_284 h0 h1) <|
  Eq.trans (mx_iload_n t107 d107_98 (x := x2) rfl) <|
  Eq.trans (mx_aload t107 d107_99 (x := a7) rfl) <|
  Eq.trans (mx_getR t107 d107_101 rfl fl11_284 h2 h3) <|
  Eq.trans (mx_iload t107 d107_104 (x := x4) rfl) <|
  Eq.trans (mx_iload t107 d107_106 (x := x5) rfl) <|
  Eq.trans (mx_cpl2 t107 d107_108 ac11_320 (Nat.le_of_ble_eq_true rfl) h4 h5 h6) <|
  Eq.trans (mx_iload t107 d107_111 (x := x5) rfl) <|
  (mx_iret t107 d107_113 (ty := .int) rfl rfl (fun h => nomatch h))
theorem e107 {d : Nat} {S : mm_S} {a0 : Nat} {x1 : Int32} {x2 : Int32} {x3 : Int32} {x4 : Int32} {x5 : Int32} : mm_cl d 107 [.ref a0, .int x1, .int x2, .int x3, .int x4, .int x5] S = mm_ex d 107 0 [.ref a0, .int x1, .int x2, .int x3, .int x4, .int x5, .null, .null] [] S := mm_cl_eq t107 (Nat.le_of_ble_eq_true rfl) rfl
/-! X11_orAbsent -/
theorem d108_0 : decode prog_1_method_37_code 0 = .ok (.iload_n 0, 1) := by decide +kernel
theorem d108_1 : decode prog_1_method_37_code 1 = .ok (.ifCond .ge 8, 3) := by decide +kernel
theorem d108_4 : decode prog_1_method_37_code 4 = .ok (.bipush (-5), 2) := by decide +kernel
theorem d108_6 : decode prog_1_method_37_code 6 = .ok (.goto 4, 3) := by decide +kernel
theorem d108_9 : decode prog_1_method_37_code 9 = .ok (.iload_n 0, 1) := by decide +kernel
theorem d108_10 : decode prog_1_method_37_code 10 = .ok (.ireturn, 1) := by decide +kernel
theorem b108_0 {d : Nat} {S : mm_S} {x0 : Int32} : mm_ex d 108 0 [.int x0] [] S =
    if nI 0 ≤ x0 then mm_ex d 108 9 [.int x0] [] S else mm_ex d 108 4 [.int x0] [] S :=
  Eq.trans (mx_iload_n t108 d108_0 (x := x0) rfl) <|
  (mx_ige t108 d108_1 (tgt := 9) (by decide))
theorem b108_4 {d : Nat} {S : mm_S} {x0 : Int32} : mm_ex d 108 4 [.int x0] [] S =
    some (some (.int (-5)), S) :=
  Eq.trans (mx_bipush t108 d108_4 (v := -5) rfl) <|
  Eq.trans (mx_goto t108 d108_6 (tgt := 10) (by decide)) <|
  (mx_iret t108 d108_10 (ty := .int) rfl rfl (fun h => nomatch h))
theorem b108_9 {d : Nat} {S : mm_S} {x0 : Int32} : mm_ex d 108 9 [.int x0] [] S =
    some (some (.int x0), S) :=
  Eq.trans (mx_iload_n t108 d108_9 (x := x0) rfl) <|
  (mx_iret t108 d108_10 (ty := .int) rfl rfl (fun h => nomatch h))
theorem e108 {d : Nat} {S : mm_S} {x0 : Int32} : mm_cl d 108 [.int x0] S = mm_ex d 108 0 [.int x0] [] S := mm_cl_eq t108 (Nat.le_of_ble_eq_true rfl) rfl
/-! X11_isTape -/
theorem d109_0 : decode prog_1_method_38_code 0 = .ok (.iload_n 0, 1) := by decide +kernel
theorem d109_1 : decode prog_1_method_38_code 1 = .ok (.ifCond .lt 13, 3) := by decide +kernel
theorem d109_4 : decode prog_1_method_38_code 4 = .ok (.iload_n 0, 1) := by decide +kernel
theorem d109_5 : decode prog_1_method_38_code 5 = .ok (.bipush 6, 2) := by decide +kernel
theorem d109_7 : decode prog_1_method_38_code 7 = .ok (.if_icmp .ge 7, 3) := by decide +kernel
theorem d109_10 : decode prog_1_method_38_code 10 = .ok (.iconst 1, 1) := by decide +kernel
theorem d109_11 : decode prog_1_method_38_code 11 = .ok (.goto 4, 3) := by decide +kernel
theorem d109_14 : decode prog_1_method_38_code 14 = .ok (.iconst 0, 1) := by decide +kernel
theorem d109_15 : decode prog_1_method_38_code 15 = .ok (.ireturn, 1) := by decide +kernel
theorem b109_0 {d : Nat} {S : mm_S} {x0 : Int32} : mm_ex d 109 0 [.int x0] [] S =
    if x0 < nI 0 then mm_ex d 109 14 [.int x0] [] S else mm_ex d 109 4 [.int x0] [] S :=
  Eq.trans (mx_iload_n t109 d109_0 (x := x0) rfl) <|
  (mx_ilt t109 d109_1 (tgt := 14) (by decide))
theorem b109_4 {d : Nat} {S : mm_S} {x0 : Int32} : mm_ex d 109 4 [.int x0] [] S =
    if (nI 6) ≤ x0 then mm_ex d 109 14 [.int x0] [] S else mm_ex d 109 10 [.int x0] [] S :=
  Eq.trans (mx_iload_n t109 d109_4 (x := x0) rfl) <|
  Eq.trans (mx_bipush t109 d109_5 (v := nI 6) rfl) <|
  (mx_cge t109 d109_7 (tgt := 14) (by decide))
theorem b109_10 {d : Nat} {S : mm_S} {x0 : Int32} : mm_ex d 109 10 [.int x0] [] S =
    some (some (.int (nI 1)), S) :=
  Eq.trans (mx_iconst t109 d109_10 (v := nI 1) rfl) <|
  Eq.trans (mx_goto t109 d109_11 (tgt := 15) (by decide)) <|
  (mx_iret t109 d109_15 (ty := .boolean) rfl rfl (fun h => nomatch h))
theorem b109_14 {d : Nat} {S : mm_S} {x0 : Int32} : mm_ex d 109 14 [.int x0] [] S =
    some (some (.int (nI 0)), S) :=
  Eq.trans (mx_iconst t109 d109_14 (v := nI 0) rfl) <|
  (mx_iret t109 d109_15 (ty := .boolean) rfl rfl (fun h => nomatch h))
theorem e109 {d : Nat} {S : mm_S} {x0 : Int32} : mm_cl d 109 [.int x0] S = mm_ex d 109 0 [.int x0] [] S := mm_cl_eq t109 (Nat.le_of_ble_eq_true rfl) rfl
/-! X11_rowDigits -/
theorem dd110_0 : (decode prog_1_method_39_code 0 = .ok (.iload_n 1, 1)) ∧ (decode prog_1_method_39_code 1 = .ok (.iconst 3, 1)) ∧ (decode prog_1_method_39_code 2 = .ok (.imul, 1)) ∧ (decode prog_1_method_39_code 3 = .ok (.istore_n 2, 1)) ∧ (decode prog_1_method_39_code 4 = .ok (.bipush 100, 2)) ∧ (decode prog_1_method_39_code 6 = .ok (.aload_n 0, 1)) ∧ (decode prog_1_method_39_code 7 = .ok (.getfield 17, 3)) ∧ (decode prog_1_method_39_code 10 = .ok (.getfield 124, 3)) ∧ (decode prog_1_method_39_code 13 = .ok (.iload_n 2, 1)) ∧ (decode prog_1_method_39_code 14 = .ok (.iaload, 1)) ∧ (decode prog_1_method_39_code 15 = .ok (.imul, 1)) ∧ (decode prog_1_method_39_code 16 = .ok (.bipush 10, 2)) ∧ (decode prog_1_method_39_code 18 = .ok (.aload_n 0, 1)) ∧ (decode prog_1_method_39_code 19 = .ok (.getfield 17, 3)) ∧ (decode prog_1_method_39_code 22 = .ok (.getfield 124, 3)) ∧ (decode prog_1_method_39_code 25 = .ok (.iload_n 2, 1)) := by decide +kernel
theorem d110_0 : decode prog_1_method_39_code 0 = .ok (.iload_n 1, 1) := dd110_0.1
theorem d110_1 : decode prog_1_method_39_code 1 = .ok (.iconst 3, 1) := dd110_0.2.1
theorem d110_2 : decode prog_1_method_39_code 2 = .ok (.imul, 1) := dd110_0.2.2.1
theorem d110_3 : decode prog_1_method_39_code 3 = .ok (.istore_n 2, 1) := dd110_0.2.2.2.1
theorem d110_4 : decode prog_1_method_39_code 4 = .ok (.bipush 100, 2) := dd110_0.2.2.2.2.1
theorem d110_6 : decode prog_1_method_39_code 6 = .ok (.aload_n 0, 1) := dd110_0.2.2.2.2.2.1
theorem d110_7 : decode prog_1_method_39_code 7 = .ok (.getfield 17, 3) := dd110_0.2.2.2.2.2.2.1
theorem d110_10 : decode prog_1_method_39_code 10 = .ok (.getfield 124, 3) := dd110_0.2.2.2.2.2.2.2.1
theorem d110_13 : decode prog_1_method_39_code 13 = .ok (.iload_n 2, 1) := dd110_0.2.2.2.2.2.2.2.2.1
theorem d110_14 : decode prog_1_method_39_code 14 = .ok (.iaload, 1) := dd110_0.2.2.2.2.2.2.2.2.2.1
theorem d110_15 : decode prog_1_method_39_code 15 = .ok (.imul, 1) := dd110_0.2.2.2.2.2.2.2.2.2.2.1
theorem d110_16 : decode prog_1_method_39_code 16 = .ok (.bipush 10, 2) := dd110_0.2.2.2.2.2.2.2.2.2.2.2.1
theorem d110_18 : decode prog_1_method_39_code 18 = .ok (.aload_n 0, 1) := dd110_0.2.2.2.2.2.2.2.2.2.2.2.2.1
theorem d110_19 : decode prog_1_method_39_code 19 = .ok (.getfield 17, 3) := dd110_0.2.2.2.2.2.2.2.2.2.2.2.2.2.1
theorem d110_22 : decode prog_1_method_39_code 22 = .ok (.getfield 124, 3) := dd110_0.2.2.2.2.2.2.2.2.2.2.2.2.2.2.1
theorem d110_25 : decode prog_1_method_39_code 25 = .ok (.iload_n 2, 1) := dd110_0.2.2.2.2.2.2.2.2.2.2.2.2.2.2.2
theorem dd110_26 : (decode prog_1_method_39_code 26 = .ok (.iconst 1, 1)) ∧ (decode prog_1_method_39_code 27 = .ok (.iadd, 1)) ∧ (decode prog_1_method_39_code 28 = .ok (.iaload, 1)) ∧ (decode prog_1_method_39_code 29 = .ok (.imul, 1)) ∧ (decode prog_1_method_39_code 30 = .ok (.iadd, 1)) ∧ (decode prog_1_method_39_code 31 = .ok (.aload_n 0, 1)) ∧ (decode prog_1_method_39_code 32 = .ok (.getfield 17, 3)) ∧ (decode prog_1_method_39_code 35 = .ok (.getfield 124, 3)) ∧ (decode prog_1_method_39_code 38 = .ok (.iload_n 2, 1)) ∧ (decode prog_1_method_39_code 39 = .ok (.iconst 2, 1)) ∧ (decode prog_1_method_39_code 40 = .ok (.iadd, 1)) ∧ (decode prog_1_method_39_code 41 = .ok (.iaload, 1)) ∧ (decode prog_1_method_39_code 42 = .ok (.iadd, 1)) ∧ (decode prog_1_method_39_code 43 = .ok (.ireturn, 1)) := by decide +kernel
theorem d110_26 : decode prog_1_method_39_code 26 = .ok (.iconst 1, 1) := dd110_26.1
theorem d110_27 : decode prog_1_method_39_code 27 = .ok (.iadd, 1) := dd110_26.2.1
theorem d110_28 : decode prog_1_method_39_code 28 = .ok (.iaload, 1) := dd110_26.2.2.1
theorem d110_29 : decode prog_1_method_39_code 29 = .ok (.imul, 1) := dd110_26.2.2.2.1
theorem d110_30 : decode prog_1_method_39_code 30 = .ok (.iadd, 1) := dd110_26.2.2.2.2.1
theorem d110_31 : decode prog_1_method_39_code 31 = .ok (.aload_n 0, 1) := dd110_26.2.2.2.2.2.1
theorem d110_32 : decode prog_1_method_39_code 32 = .ok (.getfield 17, 3) := dd110_26.2.2.2.2.2.2.1
theorem d110_35 : decode prog_1_method_39_code 35 = .ok (.getfield 124, 3) := dd110_26.2.2.2.2.2.2.2.1
theorem d110_38 : decode prog_1_method_39_code 38 = .ok (.iload_n 2, 1) := dd110_26.2.2.2.2.2.2.2.2.1
theorem d110_39 : decode prog_1_method_39_code 39 = .ok (.iconst 2, 1) := dd110_26.2.2.2.2.2.2.2.2.2.1
theorem d110_40 : decode prog_1_method_39_code 40 = .ok (.iadd, 1) := dd110_26.2.2.2.2.2.2.2.2.2.2.1
theorem d110_41 : decode prog_1_method_39_code 41 = .ok (.iaload, 1) := dd110_26.2.2.2.2.2.2.2.2.2.2.2.1
theorem d110_42 : decode prog_1_method_39_code 42 = .ok (.iadd, 1) := dd110_26.2.2.2.2.2.2.2.2.2.2.2.2.1
theorem d110_43 : decode prog_1_method_39_code 43 = .ok (.ireturn, 1) := dd110_26.2.2.2.2.2.2.2.2.2.2.2.2.2
theorem b110_0 {d : Nat} {S : mm_S} {a0 : Nat} {x1 : Int32} (h0 : mm_obj S a0 11 = true) (h1 : (mm_R S a0 0).isSome = true) (h2 : mm_obj S (mm_rg S a0 0) 1 = true) (h3 : (mm_R S (mm_rg S a0 0) 2).isSome = true) (h4 : mm_inb (x1 * (nI 3)) (mm_N S (mm_rg S (mm_rg S a0 0) 2)) = true) (h5 : mm_arr S (mm_rg S (mm_rg S a0 0) 2) 13 = true) (h6 : mm_inb ((x1 * (nI 3)) + (nI 1)) (mm_N S (mm_rg S (mm_rg S a0 0) 2)) = true) (h7 : mm_inb ((x1 * (nI 3)) + (nI 2)) (mm_N S (mm_rg S (mm_rg S a0 0) 2)) = true) : mm_ex d 110 0 [.ref a0, .int x1, .null] [] S =
    some (some (.int ((((nI 100) * (mm_M S (mm_rg S (mm_rg S a0 0) 2) (x1 * (nI 3)).toNatClampNeg)) + ((nI 10) * (mm_M S (mm_rg S (mm_rg S a0 0) 2) ((x1 * (nI 3)) + (nI 1)).toNatClampNeg))) + (mm_M S (mm_rg S (mm_rg S a0 0) 2) ((x1 * (nI 3)) + (nI 2)).toNatClampNeg))), S) :=
  Eq.trans (mx_iload_n t110 d110_0 (x := x1) rfl) <|
  Eq.trans (mx_iconst t110 d110_1 (v := nI 3) rfl) <|
  Eq.trans (mx_imul t110 d110_2) <|
  Eq.trans (mx_istore_n t110 d110_3 (ls' := [.ref a0, .int x1, .int (x1 * (nI 3))]) rfl rfl) <|
  Eq.trans (mx_bipush t110 d110_4 (v := nI 100) rfl) <|
  Eq.trans (mx_aload_n t110 d110_6 (x := a0) rfl) <|
  Eq.trans (mx_getR t110 d110_7 rfl fl11_17 h0 h1) <|
  Eq.trans (mx_getR t110 d110_10 rfl fl11_124 h2 h3) <|
  Eq.trans (mx_iload_n t110 d110_13 (x := x1 * (nI 3)) rfl) <|
  Eq.trans (mx_iald t110 d110_14 h5 h4) <|
  Eq.trans (mx_imul t110 d110_15) <|
  Eq.trans (mx_bipush t110 d110_16 (v := nI 10) rfl) <|
  Eq.trans (mx_aload_n t110 d110_18 (x := a0) rfl) <|
  Eq.trans (mx_getR t110 d110_19 rfl fl11_17 h0 h1) <|
  Eq.trans (mx_getR t110 d110_22 rfl fl11_124 h2 h3) <|
  Eq.trans (mx_iload_n t110 d110_25 (x := x1 * (nI 3)) rfl) <|
  Eq.trans (mx_iconst t110 d110_26 (v := nI 1) rfl) <|
  Eq.trans (mx_iadd t110 d110_27) <|
  Eq.trans (mx_iald t110 d110_28 h5 h6) <|
  Eq.trans (mx_imul t110 d110_29) <|
  Eq.trans (mx_iadd t110 d110_30) <|
  Eq.trans (mx_aload_n t110 d110_31 (x := a0) rfl) <|
  Eq.trans (mx_getR t110 d110_32 rfl fl11_17 h0 h1) <|
  Eq.trans (mx_getR t110 d110_35 rfl fl11_124 h2 h3) <|
  Eq.trans (mx_iload_n t110 d110_38 (x := x1 * (nI 3)) rfl) <|
  Eq.trans (mx_iconst t110 d110_39 (v := nI 2) rfl) <|
  Eq.trans (mx_iadd t110 d110_40) <|
  Eq.trans (mx_iald t110 d110_41 h5 h7) <|
  Eq.trans (mx_iadd t110 d110_42) <|
  (mx_iret t110 d110_43 (ty := .int) rfl rfl (fun h => nomatch h))
theorem e110 {d : Nat} {S : mm_S} {a0 : Nat} {x1 : Int32} : mm_cl d 110 [.ref a0, .int x1] S = mm_ex d 110 0 [.ref a0, .int x1, .null] [] S := mm_cl_eq t110 (Nat.le_of_ble_eq_true rfl) rfl
/-! X11_newBuyer -/
theorem dd111_0 : (decode prog_1_method_40_code 0 = .ok (.iload_n 0, 1)) ∧ (decode prog_1_method_40_code 1 = .ok (.tableswitch 111 1 6 #[39, 51, 63, 75, 87, 99], 39)) ∧ (decode prog_1_method_40_code 40 = .ok (.new 326, 3)) ∧ (decode prog_1_method_40_code 43 = .ok (.dup, 1)) ∧ (decode prog_1_method_40_code 44 = .ok (.iload_n 0, 1)) ∧ (decode prog_1_method_40_code 45 = .ok (.iload_n 1, 1)) ∧ (decode prog_1_method_40_code 46 = .ok (.iload_n 2, 1)) ∧ (decode prog_1_method_40_code 47 = .ok (.iload_n 3, 1)) ∧ (decode prog_1_method_40_code 48 = .ok (.invokespecial 328, 3)) ∧ (decode prog_1_method_40_code 51 = .ok (.areturn, 1)) ∧ (decode prog_1_method_40_code 52 = .ok (.new 331, 3)) ∧ (decode prog_1_method_40_code 55 = .ok (.dup, 1)) ∧ (decode prog_1_method_40_code 56 = .ok (.iload_n 0, 1)) ∧ (decode prog_1_method_40_code 57 = .ok (.iload_n 1, 1)) ∧ (decode prog_1_method_40_code 58 = .ok (.iload_n 2, 1)) ∧ (decode prog_1_method_40_code 59 = .ok (.iload_n 3, 1)) := by decide +kernel
theorem d111_0 : decode prog_1_method_40_code 0 = .ok (.iload_n 0, 1) := dd111_0.1
theorem d111_1 : decode prog_1_method_40_code 1 = .ok (.tableswitch 111 1 6 #[39, 51, 63, 75, 87, 99], 39) := dd111_0.2.1
theorem d111_40 : decode prog_1_method_40_code 40 = .ok (.new 326, 3) := dd111_0.2.2.1
theorem d111_43 : decode prog_1_method_40_code 43 = .ok (.dup, 1) := dd111_0.2.2.2.1
theorem d111_44 : decode prog_1_method_40_code 44 = .ok (.iload_n 0, 1) := dd111_0.2.2.2.2.1
theorem d111_45 : decode prog_1_method_40_code 45 = .ok (.iload_n 1, 1) := dd111_0.2.2.2.2.2.1
theorem d111_46 : decode prog_1_method_40_code 46 = .ok (.iload_n 2, 1) := dd111_0.2.2.2.2.2.2.1
theorem d111_47 : decode prog_1_method_40_code 47 = .ok (.iload_n 3, 1) := dd111_0.2.2.2.2.2.2.2.1
theorem d111_48 : decode prog_1_method_40_code 48 = .ok (.invokespecial 328, 3) := dd111_0.2.2.2.2.2.2.2.2.1
theorem d111_51 : decode prog_1_method_40_code 51 = .ok (.areturn, 1) := dd111_0.2.2.2.2.2.2.2.2.2.1
theorem d111_52 : decode prog_1_method_40_code 52 = .ok (.new 331, 3) := dd111_0.2.2.2.2.2.2.2.2.2.2.1
theorem d111_55 : decode prog_1_method_40_code 55 = .ok (.dup, 1) := dd111_0.2.2.2.2.2.2.2.2.2.2.2.1
theorem d111_56 : decode prog_1_method_40_code 56 = .ok (.iload_n 0, 1) := dd111_0.2.2.2.2.2.2.2.2.2.2.2.2.1
theorem d111_57 : decode prog_1_method_40_code 57 = .ok (.iload_n 1, 1) := dd111_0.2.2.2.2.2.2.2.2.2.2.2.2.2.1
theorem d111_58 : decode prog_1_method_40_code 58 = .ok (.iload_n 2, 1) := dd111_0.2.2.2.2.2.2.2.2.2.2.2.2.2.2.1
theorem d111_59 : decode prog_1_method_40_code 59 = .ok (.iload_n 3, 1) := dd111_0.2.2.2.2.2.2.2.2.2.2.2.2.2.2.2
theorem dd111_60 : (decode prog_1_method_40_code 60 = .ok (.invokespecial 333, 3)) ∧ (decode prog_1_method_40_code 63 = .ok (.areturn, 1)) ∧ (decode prog_1_method_40_code 64 = .ok (.new 334, 3)) ∧ (decode prog_1_method_40_code 67 = .ok (.dup, 1)) ∧ (decode prog_1_method_40_code 68 = .ok (.iload_n 0, 1)) ∧ (decode prog_1_method_40_code 69 = .ok (.iload_n 1, 1)) ∧ (decode prog_1_method_40_code 70 = .ok (.iload_n 2, 1)) ∧ (decode prog_1_method_40_code 71 = .ok (.iload_n 3, 1)) ∧ (decode prog_1_method_40_code 72 = .ok (.invokespecial 336, 3)) ∧ (decode prog_1_method_40_code 75 = .ok (.areturn, 1)) ∧ (decode prog_1_method_40_code 76 = .ok (.new 337, 3)) ∧ (decode prog_1_method_40_code 79 = .ok (.dup, 1)) ∧ (decode prog_1_method_40_code 80 = .ok (.iload_n 0, 1)) ∧ (decode prog_1_method_40_code 81 = .ok (.iload_n 1, 1)) ∧ (decode prog_1_method_40_code 82 = .ok (.iload_n 2, 1)) ∧ (decode prog_1_method_40_code 83 = .ok (.iload_n 3, 1)) := by decide +kernel
theorem d111_60 : decode prog_1_method_40_code 60 = .ok (.invokespecial 333, 3) := dd111_60.1
theorem d111_63 : decode prog_1_method_40_code 63 = .ok (.areturn, 1) := dd111_60.2.1
theorem d111_64 : decode prog_1_method_40_code 64 = .ok (.new 334, 3) := dd111_60.2.2.1
theorem d111_67 : decode prog_1_method_40_code 67 = .ok (.dup, 1) := dd111_60.2.2.2.1
theorem d111_68 : decode prog_1_method_40_code 68 = .ok (.iload_n 0, 1) := dd111_60.2.2.2.2.1
theorem d111_69 : decode prog_1_method_40_code 69 = .ok (.iload_n 1, 1) := dd111_60.2.2.2.2.2.1
theorem d111_70 : decode prog_1_method_40_code 70 = .ok (.iload_n 2, 1) := dd111_60.2.2.2.2.2.2.1
theorem d111_71 : decode prog_1_method_40_code 71 = .ok (.iload_n 3, 1) := dd111_60.2.2.2.2.2.2.2.1
theorem d111_72 : decode prog_1_method_40_code 72 = .ok (.invokespecial 336, 3) := dd111_60.2.2.2.2.2.2.2.2.1
theorem d111_75 : decode prog_1_method_40_code 75 = .ok (.areturn, 1) := dd111_60.2.2.2.2.2.2.2.2.2.1
theorem d111_76 : decode prog_1_method_40_code 76 = .ok (.new 337, 3) := dd111_60.2.2.2.2.2.2.2.2.2.2.1
theorem d111_79 : decode prog_1_method_40_code 79 = .ok (.dup, 1) := dd111_60.2.2.2.2.2.2.2.2.2.2.2.1
theorem d111_80 : decode prog_1_method_40_code 80 = .ok (.iload_n 0, 1) := dd111_60.2.2.2.2.2.2.2.2.2.2.2.2.1
theorem d111_81 : decode prog_1_method_40_code 81 = .ok (.iload_n 1, 1) := dd111_60.2.2.2.2.2.2.2.2.2.2.2.2.2.1
theorem d111_82 : decode prog_1_method_40_code 82 = .ok (.iload_n 2, 1) := dd111_60.2.2.2.2.2.2.2.2.2.2.2.2.2.2.1
theorem d111_83 : decode prog_1_method_40_code 83 = .ok (.iload_n 3, 1) := dd111_60.2.2.2.2.2.2.2.2.2.2.2.2.2.2.2
theorem dd111_84 : (decode prog_1_method_40_code 84 = .ok (.invokespecial 339, 3)) ∧ (decode prog_1_method_40_code 87 = .ok (.areturn, 1)) ∧ (decode prog_1_method_40_code 88 = .ok (.new 340, 3)) ∧ (decode prog_1_method_40_code 91 = .ok (.dup, 1)) ∧ (decode prog_1_method_40_code 92 = .ok (.iload_n 0, 1)) ∧ (decode prog_1_method_40_code 93 = .ok (.iload_n 1, 1)) ∧ (decode prog_1_method_40_code 94 = .ok (.iload_n 2, 1)) ∧ (decode prog_1_method_40_code 95 = .ok (.iload_n 3, 1)) ∧ (decode prog_1_method_40_code 96 = .ok (.invokespecial 342, 3)) ∧ (decode prog_1_method_40_code 99 = .ok (.areturn, 1)) ∧ (decode prog_1_method_40_code 100 = .ok (.new 343, 3)) ∧ (decode prog_1_method_40_code 103 = .ok (.dup, 1)) ∧ (decode prog_1_method_40_code 104 = .ok (.iload_n 0, 1)) ∧ (decode prog_1_method_40_code 105 = .ok (.iload_n 1, 1)) ∧ (decode prog_1_method_40_code 106 = .ok (.iload_n 2, 1)) ∧ (decode prog_1_method_40_code 107 = .ok (.iload_n 3, 1)) := by decide +kernel
theorem d111_84 : decode prog_1_method_40_code 84 = .ok (.invokespecial 339, 3) := dd111_84.1
theorem d111_87 : decode prog_1_method_40_code 87 = .ok (.areturn, 1) := dd111_84.2.1
theorem d111_88 : decode prog_1_method_40_code 88 = .ok (.new 340, 3) := dd111_84.2.2.1
theorem d111_91 : decode prog_1_method_40_code 91 = .ok (.dup, 1) := dd111_84.2.2.2.1
theorem d111_92 : decode prog_1_method_40_code 92 = .ok (.iload_n 0, 1) := dd111_84.2.2.2.2.1
theorem d111_93 : decode prog_1_method_40_code 93 = .ok (.iload_n 1, 1) := dd111_84.2.2.2.2.2.1
theorem d111_94 : decode prog_1_method_40_code 94 = .ok (.iload_n 2, 1) := dd111_84.2.2.2.2.2.2.1
theorem d111_95 : decode prog_1_method_40_code 95 = .ok (.iload_n 3, 1) := dd111_84.2.2.2.2.2.2.2.1
theorem d111_96 : decode prog_1_method_40_code 96 = .ok (.invokespecial 342, 3) := dd111_84.2.2.2.2.2.2.2.2.1
theorem d111_99 : decode prog_1_method_40_code 99 = .ok (.areturn, 1) := dd111_84.2.2.2.2.2.2.2.2.2.1
theorem d111_100 : decode prog_1_method_40_code 100 = .ok (.new 343, 3) := dd111_84.2.2.2.2.2.2.2.2.2.2.1
theorem d111_103 : decode prog_1_method_40_code 103 = .ok (.dup, 1) := dd111_84.2.2.2.2.2.2.2.2.2.2.2.1
theorem d111_104 : decode prog_1_method_40_code 104 = .ok (.iload_n 0, 1) := dd111_84.2.2.2.2.2.2.2.2.2.2.2.2.1
theorem d111_105 : decode prog_1_method_40_code 105 = .ok (.iload_n 1, 1) := dd111_84.2.2.2.2.2.2.2.2.2.2.2.2.2.1
theorem d111_106 : decode prog_1_method_40_code 106 = .ok (.iload_n 2, 1) := dd111_84.2.2.2.2.2.2.2.2.2.2.2.2.2.2.1
theorem d111_107 : decode prog_1_method_40_code 107 = .ok (.iload_n 3, 1) := dd111_84.2.2.2.2.2.2.2.2.2.2.2.2.2.2.2
theorem dd111_108 : (decode prog_1_method_40_code 108 = .ok (.invokespecial 345, 3)) ∧ (decode prog_1_method_40_code 111 = .ok (.areturn, 1)) ∧ (decode prog_1_method_40_code 112 = .ok (.new 63, 3)) ∧ (decode prog_1_method_40_code 115 = .ok (.dup, 1)) ∧ (decode prog_1_method_40_code 116 = .ok (.iload_n 0, 1)) ∧ (decode prog_1_method_40_code 117 = .ok (.iload_n 1, 1)) ∧ (decode prog_1_method_40_code 118 = .ok (.iload_n 2, 1)) ∧ (decode prog_1_method_40_code 119 = .ok (.iload_n 3, 1)) ∧ (decode prog_1_method_40_code 120 = .ok (.invokespecial 346, 3)) ∧ (decode prog_1_method_40_code 123 = .ok (.areturn, 1)) := by decide +kernel
theorem d111_108 : decode prog_1_method_40_code 108 = .ok (.invokespecial 345, 3) := dd111_108.1
theorem d111_111 : decode prog_1_method_40_code 111 = .ok (.areturn, 1) := dd111_108.2.1
theorem d111_112 : decode prog_1_method_40_code 112 = .ok (.new 63, 3) := dd111_108.2.2.1
theorem d111_115 : decode prog_1_method_40_code 115 = .ok (.dup, 1) := dd111_108.2.2.2.1
theorem d111_116 : decode prog_1_method_40_code 116 = .ok (.iload_n 0, 1) := dd111_108.2.2.2.2.1
theorem d111_117 : decode prog_1_method_40_code 117 = .ok (.iload_n 1, 1) := dd111_108.2.2.2.2.2.1
theorem d111_118 : decode prog_1_method_40_code 118 = .ok (.iload_n 2, 1) := dd111_108.2.2.2.2.2.2.1
theorem d111_119 : decode prog_1_method_40_code 119 = .ok (.iload_n 3, 1) := dd111_108.2.2.2.2.2.2.2.1
theorem d111_120 : decode prog_1_method_40_code 120 = .ok (.invokespecial 346, 3) := dd111_108.2.2.2.2.2.2.2.2.1
theorem d111_123 : decode prog_1_method_40_code 123 = .ok (.areturn, 1) := dd111_108.2.2.2.2.2.2.2.2.2
theorem b111_0 {d : Nat} {S : mm_S} {x0 : Int32} {x1 : Int32} {x2 : Int32} {x3 : Int32} : mm_ex d 111 0 [.int x0, .int x1, .int x2, .int x3] [] S =
    mm_ex d 111 1 [.int x0, .int x1, .int x2, .int x3] [.int x0] S :=
  (mx_iload_n t111 d111_0 (x := x0) rfl)
theorem b111_1 {d : Nat} {S : mm_S} {x0 : Int32} {x1 : Int32} {x2 : Int32} {x3 : Int32} {p0 : Int32} : mm_ex d 111 1 [.int x0, .int x1, .int x2, .int x3] [.int p0] S =
    if p0 = nI 1 then mm_ex d 111 40 [.int x0, .int x1, .int x2, .int x3] [] S else if p0 = nI 2 then mm_ex d 111 52 [.int x0, .int x1, .int x2, .int x3] [] S else if p0 = nI 3 then mm_ex d 111 64 [.int x0, .int x1, .int x2, .int x3] [] S else if p0 = nI 4 then mm_ex d 111 76 [.int x0, .int x1, .int x2, .int x3] [] S else if p0 = nI 5 then mm_ex d 111 88 [.int x0, .int x1, .int x2, .int x3] [] S else if p0 = nI 6 then mm_ex d 111 100 [.int x0, .int x1, .int x2, .int x3] [] S else mm_ex d 111 112 [.int x0, .int x1, .int x2, .int x3] [] S := by
  by_cases e0 : p0 = nI 1
  · subst e0
    rw [if_pos rfl]
    exact mx_tswI t111 d111_1 (by decide) (off := 39) (by decide) (by decide)
  by_cases e1 : p0 = nI 2
  · subst e1
    rw [if_neg (by decide), if_pos rfl]
    exact mx_tswI t111 d111_1 (by decide) (off := 51) (by decide) (by decide)
  by_cases e2 : p0 = nI 3
  · subst e2
    rw [if_neg (by decide), if_neg (by decide), if_pos rfl]
    exact mx_tswI t111 d111_1 (by decide) (off := 63) (by decide) (by decide)
  by_cases e3 : p0 = nI 4
  · subst e3
    rw [if_neg (by decide), if_neg (by decide), if_neg (by decide), if_pos rfl]
    exact mx_tswI t111 d111_1 (by decide) (off := 75) (by decide) (by decide)
  by_cases e4 : p0 = nI 5
  · subst e4
    rw [if_neg (by decide), if_neg (by decide), if_neg (by decide), if_neg (by decide), if_pos rfl]
    exact mx_tswI t111 d111_1 (by decide) (off := 87) (by decide) (by decide)
  by_cases e5 : p0 = nI 6
  · subst e5
    rw [if_neg (by decide), if_neg (by decide), if_neg (by decide), if_neg (by decide), if_neg (by decide), if_pos rfl]
    exact mx_tswI t111 d111_1 (by decide) (off := 99) (by decide) (by decide)
  rw [if_neg e0, if_neg e1, if_neg e2, if_neg e3, if_neg e4, if_neg e5]
  have g0 := mm_ni32 e0
  have g1 := mm_ni32 e1
  have g2 := mm_ni32 e2
  have g3 := mm_ni32 e3
  have g4 := mm_ni32 e4
  have g5 := mm_ni32 e5
  rw [show (nI 1 : Int32).toInt = 1 by decide] at g0
  rw [show (nI 2 : Int32).toInt = 2 by decide] at g1
  rw [show (nI 3 : Int32).toInt = 3 by decide] at g2
  rw [show (nI 4 : Int32).toInt = 4 by decide] at g3
  rw [show (nI 5 : Int32).toInt = 5 by decide] at g4
  rw [show (nI 6 : Int32).toInt = 6 by decide] at g5
  exact mx_tswD t111 d111_1 (by omega) (by decide)
theorem b111_40 {d : Nat} {S : mm_S} {x0 : Int32} {x1 : Int32} {x2 : Int32} {x3 : Int32} (h0 : decide (mm_n S < 1000000) = true) : mm_ex d 111 40 [.int x0, .int x1, .int x2, .int x3] [] S =
    mm_ex d 111 43 [.int x0, .int x1, .int x2, .int x3] [.ref (mm_n S)] (mm_nw S 4 (mm_NF 4)) :=
  (mx_new t111 d111_40 (k := 4) (n := mm_NF 4) nw11_326 rfl h0)
theorem b111_43 {d : Nat} {S : mm_S} {x0 : Int32} {x1 : Int32} {x2 : Int32} {x3 : Int32} {p0 : Nat} (h0 : (decide (p0 < mm_n S) && decide (mm_K S p0 < 13)) = true) : mm_ex (d + 1) 111 43 [.int x0, .int x1, .int x2, .int x3] [.ref p0] S =
    mm_bd (mm_cl d 31 [.ref p0, .int x0, .int x1, .int x2, .int x3] S) (fun v S2 => mm_ex (d + 1) 111 51 [.int x0, .int x1, .int x2, .int x3] (v.toList ++ [.ref p0]) S2) :=
  Eq.trans (mx_dupr t111 d111_43) <|
  Eq.trans (mx_iload_n t111 d111_44 (x := x0) rfl) <|
  Eq.trans (mx_iload_n t111 d111_45 (x := x1) rfl) <|
  Eq.trans (mx_iload_n t111 d111_46 (x := x2) rfl) <|
  Eq.trans (mx_iload_n t111 d111_47 (x := x3) rfl) <|
  (mx_spec (st := [.ref p0]) t111 [.int x0, .int x1, .int x2, .int x3] d111_48 oin11_328 sp11_328 rfl (Nat.le_of_ble_eq_true rfl) (Nat.le_of_ble_eq_true rfl) h0)
theorem b111_51 {d : Nat} {S : mm_S} {x0 : Int32} {x1 : Int32} {x2 : Int32} {x3 : Int32} {p0 : Nat} : mm_ex d 111 51 [.int x0, .int x1, .int x2, .int x3] [.ref p0] S =
    some (some (.ref p0), S) :=
  (mx_aret t111 d111_51 rfl)
theorem b111_52 {d : Nat} {S : mm_S} {x0 : Int32} {x1 : Int32} {x2 : Int32} {x3 : Int32} (h0 : decide (mm_n S < 1000000) = true) : mm_ex d 111 52 [.int x0, .int x1, .int x2, .int x3] [] S =
    mm_ex d 111 55 [.int x0, .int x1, .int x2, .int x3] [.ref (mm_n S)] (mm_nw S 10 (mm_NF 10)) :=
  (mx_new t111 d111_52 (k := 10) (n := mm_NF 10) nw11_331 rfl h0)
theorem b111_55 {d : Nat} {S : mm_S} {x0 : Int32} {x1 : Int32} {x2 : Int32} {x3 : Int32} {p0 : Nat} (h0 : (decide (p0 < mm_n S) && decide (mm_K S p0 < 13)) = true) : mm_ex (d + 1) 111 55 [.int x0, .int x1, .int x2, .int x3] [.ref p0] S =
    mm_bd (mm_cl d 69 [.ref p0, .int x0, .int x1, .int x2, .int x3] S) (fun v S2 => mm_ex (d + 1) 111 63 [.int x0, .int x1, .int x2, .int x3] (v.toList ++ [.ref p0]) S2) :=
  Eq.trans (mx_dupr t111 d111_55) <|
  Eq.trans (mx_iload_n t111 d111_56 (x := x0) rfl) <|
  Eq.trans (mx_iload_n t111 d111_57 (x := x1) rfl) <|
  Eq.trans (mx_iload_n t111 d111_58 (x := x2) rfl) <|
  Eq.trans (mx_iload_n t111 d111_59 (x := x3) rfl) <|
  (mx_spec (st := [.ref p0]) t111 [.int x0, .int x1, .int x2, .int x3] d111_60 oin11_333 sp11_333 rfl (Nat.le_of_ble_eq_true rfl) (Nat.le_of_ble_eq_true rfl) h0)
theorem b111_63 {d : Nat} {S : mm_S} {x0 : Int32} {x1 : Int32} {x2 : Int32} {x3 : Int32} {p0 : Nat} : mm_ex d 111 63 [.int x0, .int x1, .int x2, .int x3] [.ref p0] S =
    some (some (.ref p0), S) :=
  (mx_aret t111 d111_63 rfl)
theorem b111_64 {d : Nat} {S : mm_S} {x0 : Int32} {x1 : Int32} {x2 : Int32} {x3 : Int32} (h0 : decide (mm_n S < 1000000) = true) : mm_ex d 111 64 [.int x0, .int x1, .int x2, .int x3] [] S =
    mm_ex d 111 67 [.int x0, .int x1, .int x2, .int x3] [.ref (mm_n S)] (mm_nw S 2 (mm_NF 2)) :=
  (mx_new t111 d111_64 (k := 2) (n := mm_NF 2) nw11_334 rfl h0)
theorem b111_67 {d : Nat} {S : mm_S} {x0 : Int32} {x1 : Int32} {x2 : Int32} {x3 : Int32} {p0 : Nat} (h0 : (decide (p0 < mm_n S) && decide (mm_K S p0 < 13)) = true) : mm_ex (d + 1) 111 67 [.int x0, .int x1, .int x2, .int x3] [.ref p0] S =
    mm_bd (mm_cl d 25 [.ref p0, .int x0, .int x1, .int x2, .int x3] S) (fun v S2 => mm_ex (d + 1) 111 75 [.int x0, .int x1, .int x2, .int x3] (v.toList ++ [.ref p0]) S2) :=
  Eq.trans (mx_dupr t111 d111_67) <|
  Eq.trans (mx_iload_n t111 d111_68 (x := x0) rfl) <|
  Eq.trans (mx_iload_n t111 d111_69 (x := x1) rfl) <|
  Eq.trans (mx_iload_n t111 d111_70 (x := x2) rfl) <|
  Eq.trans (mx_iload_n t111 d111_71 (x := x3) rfl) <|
  (mx_spec (st := [.ref p0]) t111 [.int x0, .int x1, .int x2, .int x3] d111_72 oin11_336 sp11_336 rfl (Nat.le_of_ble_eq_true rfl) (Nat.le_of_ble_eq_true rfl) h0)
theorem b111_75 {d : Nat} {S : mm_S} {x0 : Int32} {x1 : Int32} {x2 : Int32} {x3 : Int32} {p0 : Nat} : mm_ex d 111 75 [.int x0, .int x1, .int x2, .int x3] [.ref p0] S =
    some (some (.ref p0), S) :=
  (mx_aret t111 d111_75 rfl)
theorem b111_76 {d : Nat} {S : mm_S} {x0 : Int32} {x1 : Int32} {x2 : Int32} {x3 : Int32} (h0 : decide (mm_n S < 1000000) = true) : mm_ex d 111 76 [.int x0, .int x1, .int x2, .int x3] [] S =
    mm_ex d 111 79 [.int x0, .int x1, .int x2, .int x3] [.ref (mm_n S)] (mm_nw S 7 (mm_NF 7)) :=
  (mx_new t111 d111_76 (k := 7) (n := mm_NF 7) nw11_337 rfl h0)
theorem b111_79 {d : Nat} {S : mm_S} {x0 : Int32} {x1 : Int32} {x2 : Int32} {x3 : Int32} {p0 : Nat} (h0 : (decide (p0 < mm_n S) && decide (mm_K S p0 < 13)) = true) : mm_ex (d + 1) 111 79 [.int x0, .int x1, .int x2, .int x3] [.ref p0] S =
    mm_bd (mm_cl d 55 [.ref p0, .int x0, .int x1, .int x2, .int x3] S) (fun v S2 => mm_ex (d + 1) 111 87 [.int x0, .int x1, .int x2, .int x3] (v.toList ++ [.ref p0]) S2) :=
  Eq.trans (mx_dupr t111 d111_79) <|
  Eq.trans (mx_iload_n t111 d111_80 (x := x0) rfl) <|
  Eq.trans (mx_iload_n t111 d111_81 (x := x1) rfl) <|
  Eq.trans (mx_iload_n t111 d111_82 (x := x2) rfl) <|
  Eq.trans (mx_iload_n t111 d111_83 (x := x3) rfl) <|
  (mx_spec (st := [.ref p0]) t111 [.int x0, .int x1, .int x2, .int x3] d111_84 oin11_339 sp11_339 rfl (Nat.le_of_ble_eq_true rfl) (Nat.le_of_ble_eq_true rfl) h0)
theorem b111_87 {d : Nat} {S : mm_S} {x0 : Int32} {x1 : Int32} {x2 : Int32} {x3 : Int32} {p0 : Nat} : mm_ex d 111 87 [.int x0, .int x1, .int x2, .int x3] [.ref p0] S =
    some (some (.ref p0), S) :=
  (mx_aret t111 d111_87 rfl)
theorem b111_88 {d : Nat} {S : mm_S} {x0 : Int32} {x1 : Int32} {x2 : Int32} {x3 : Int32} (h0 : decide (mm_n S < 1000000) = true) : mm_ex d 111 88 [.int x0, .int x1, .int x2, .int x3] [] S =
    mm_ex d 111 91 [.int x0, .int x1, .int x2, .int x3] [.ref (mm_n S)] (mm_nw S 3 (mm_NF 3)) :=
  (mx_new t111 d111_88 (k := 3) (n := mm_NF 3) nw11_340 rfl h0)
theorem b111_91 {d : Nat} {S : mm_S} {x0 : Int32} {x1 : Int32} {x2 : Int32} {x3 : Int32} {p0 : Nat} (h0 : (decide (p0 < mm_n S) && decide (mm_K S p0 < 13)) = true) : mm_ex (d + 1) 111 91 [.int x0, .int x1, .int x2, .int x3] [.ref p0] S =
    mm_bd (mm_cl d 28 [.ref p0, .int x0, .int x1, .int x2, .int x3] S) (fun v S2 => mm_ex (d + 1) 111 99 [.int x0, .int x1, .int x2, .int x3] (v.toList ++ [.ref p0]) S2) :=
  Eq.trans (mx_dupr t111 d111_91) <|
  Eq.trans (mx_iload_n t111 d111_92 (x := x0) rfl) <|
  Eq.trans (mx_iload_n t111 d111_93 (x := x1) rfl) <|
  Eq.trans (mx_iload_n t111 d111_94 (x := x2) rfl) <|
  Eq.trans (mx_iload_n t111 d111_95 (x := x3) rfl) <|
  (mx_spec (st := [.ref p0]) t111 [.int x0, .int x1, .int x2, .int x3] d111_96 oin11_342 sp11_342 rfl (Nat.le_of_ble_eq_true rfl) (Nat.le_of_ble_eq_true rfl) h0)
theorem b111_99 {d : Nat} {S : mm_S} {x0 : Int32} {x1 : Int32} {x2 : Int32} {x3 : Int32} {p0 : Nat} : mm_ex d 111 99 [.int x0, .int x1, .int x2, .int x3] [.ref p0] S =
    some (some (.ref p0), S) :=
  (mx_aret t111 d111_99 rfl)
theorem b111_100 {d : Nat} {S : mm_S} {x0 : Int32} {x1 : Int32} {x2 : Int32} {x3 : Int32} (h0 : decide (mm_n S < 1000000) = true) : mm_ex d 111 100 [.int x0, .int x1, .int x2, .int x3] [] S =
    mm_ex d 111 103 [.int x0, .int x1, .int x2, .int x3] [.ref (mm_n S)] (mm_nw S 9 (mm_NF 9)) :=
  (mx_new t111 d111_100 (k := 9) (n := mm_NF 9) nw11_343 rfl h0)
theorem b111_103 {d : Nat} {S : mm_S} {x0 : Int32} {x1 : Int32} {x2 : Int32} {x3 : Int32} {p0 : Nat} (h0 : (decide (p0 < mm_n S) && decide (mm_K S p0 < 13)) = true) : mm_ex (d + 1) 111 103 [.int x0, .int x1, .int x2, .int x3] [.ref p0] S =
    mm_bd (mm_cl d 65 [.ref p0, .int x0, .int x1, .int x2, .int x3] S) (fun v S2 => mm_ex (d + 1) 111 111 [.int x0, .int x1, .int x2, .int x3] (v.toList ++ [.ref p0]) S2) :=
  Eq.trans (mx_dupr t111 d111_103) <|
  Eq.trans (mx_iload_n t111 d111_104 (x := x0) rfl) <|
  Eq.trans (mx_iload_n t111 d111_105 (x := x1) rfl) <|
  Eq.trans (mx_iload_n t111 d111_106 (x := x2) rfl) <|
  Eq.trans (mx_iload_n t111 d111_107 (x := x3) rfl) <|
  (mx_spec (st := [.ref p0]) t111 [.int x0, .int x1, .int x2, .int x3] d111_108 oin11_345 sp11_345 rfl (Nat.le_of_ble_eq_true rfl) (Nat.le_of_ble_eq_true rfl) h0)
theorem b111_111 {d : Nat} {S : mm_S} {x0 : Int32} {x1 : Int32} {x2 : Int32} {x3 : Int32} {p0 : Nat} : mm_ex d 111 111 [.int x0, .int x1, .int x2, .int x3] [.ref p0] S =
    some (some (.ref p0), S) :=
  (mx_aret t111 d111_111 rfl)
theorem b111_112 {d : Nat} {S : mm_S} {x0 : Int32} {x1 : Int32} {x2 : Int32} {x3 : Int32} (h0 : decide (mm_n S < 1000000) = true) : mm_ex d 111 112 [.int x0, .int x1, .int x2, .int x3] [] S =
    mm_ex d 111 115 [.int x0, .int x1, .int x2, .int x3] [.ref (mm_n S)] (mm_nw S 0 (mm_NF 0)) :=
  (mx_new t111 d111_112 (k := 0) (n := mm_NF 0) nw11_63 rfl h0)
theorem b111_115 {d : Nat} {S : mm_S} {x0 : Int32} {x1 : Int32} {x2 : Int32} {x3 : Int32} {p0 : Nat} (h0 : (decide (p0 < mm_n S) && decide (mm_K S p0 < 13)) = true) : mm_ex (d + 1) 111 115 [.int x0, .int x1, .int x2, .int x3] [.ref p0] S =
    mm_bd (mm_cl d 0 [.ref p0, .int x0, .int x1, .int x2, .int x3] S) (fun v S2 => mm_ex (d + 1) 111 123 [.int x0, .int x1, .int x2, .int x3] (v.toList ++ [.ref p0]) S2) :=
  Eq.trans (mx_dupr t111 d111_115) <|
  Eq.trans (mx_iload_n t111 d111_116 (x := x0) rfl) <|
  Eq.trans (mx_iload_n t111 d111_117 (x := x1) rfl) <|
  Eq.trans (mx_iload_n t111 d111_118 (x := x2) rfl) <|
  Eq.trans (mx_iload_n t111 d111_119 (x := x3) rfl) <|
  (mx_spec (st := [.ref p0]) t111 [.int x0, .int x1, .int x2, .int x3] d111_120 oin11_346 sp11_346 rfl (Nat.le_of_ble_eq_true rfl) (Nat.le_of_ble_eq_true rfl) h0)
theorem b111_123 {d : Nat} {S : mm_S} {x0 : Int32} {x1 : Int32} {x2 : Int32} {x3 : Int32} {p0 : Nat} : mm_ex d 111 123 [.int x0, .int x1, .int x2, .int x3] [.ref p0] S =
    some (some (.ref p0), S) :=
  (mx_aret t111 d111_123 rfl)
theorem e111 {d : Nat} {S : mm_S} {x0 : Int32} {x1 : Int32} {x2 : Int32} {x3 : Int32} : mm_cl d 111 [.int x0, .int x1, .int x2, .int x3] S = mm_ex d 111 0 [.int x0, .int x1, .int x2, .int x3] [] S := mm_cl_eq t111 (Nat.le_of_ble_eq_true rfl) rfl
/-! X11_isOneOf -/
theorem dd112_0 : (decode prog_1_method_41_code 0 = .ok (.iload_n 1, 1)) ∧ (decode prog_1_method_41_code 1 = .ok (.tableswitch 75 0 6 #[43, 45, 50, 55, 60, 65, 70], 43)) ∧ (decode prog_1_method_41_code 44 = .ok (.iconst 1, 1)) ∧ (decode prog_1_method_41_code 45 = .ok (.ireturn, 1)) ∧ (decode prog_1_method_41_code 46 = .ok (.aload_n 0, 1)) ∧ (decode prog_1_method_41_code 47 = .ok (.instanceof 326, 3)) ∧ (decode prog_1_method_41_code 50 = .ok (.ireturn, 1)) ∧ (decode prog_1_method_41_code 51 = .ok (.aload_n 0, 1)) ∧ (decode prog_1_method_41_code 52 = .ok (.instanceof 331, 3)) ∧ (decode prog_1_method_41_code 55 = .ok (.ireturn, 1)) ∧ (decode prog_1_method_41_code 56 = .ok (.aload_n 0, 1)) ∧ (decode prog_1_method_41_code 57 = .ok (.instanceof 334, 3)) ∧ (decode prog_1_method_41_code 60 = .ok (.ireturn, 1)) ∧ (decode prog_1_method_41_code 61 = .ok (.aload_n 0, 1)) ∧ (decode prog_1_method_41_code 62 = .ok (.instanceof 337, 3)) ∧ (decode prog_1_method_41_code 65 = .ok (.ireturn, 1)) := by decide +kernel
theorem d112_0 : decode prog_1_method_41_code 0 = .ok (.iload_n 1, 1) := dd112_0.1
theorem d112_1 : decode prog_1_method_41_code 1 = .ok (.tableswitch 75 0 6 #[43, 45, 50, 55, 60, 65, 70], 43) := dd112_0.2.1
theorem d112_44 : decode prog_1_method_41_code 44 = .ok (.iconst 1, 1) := dd112_0.2.2.1
theorem d112_45 : decode prog_1_method_41_code 45 = .ok (.ireturn, 1) := dd112_0.2.2.2.1
theorem d112_46 : decode prog_1_method_41_code 46 = .ok (.aload_n 0, 1) := dd112_0.2.2.2.2.1
theorem d112_47 : decode prog_1_method_41_code 47 = .ok (.instanceof 326, 3) := dd112_0.2.2.2.2.2.1
theorem d112_50 : decode prog_1_method_41_code 50 = .ok (.ireturn, 1) := dd112_0.2.2.2.2.2.2.1
theorem d112_51 : decode prog_1_method_41_code 51 = .ok (.aload_n 0, 1) := dd112_0.2.2.2.2.2.2.2.1
theorem d112_52 : decode prog_1_method_41_code 52 = .ok (.instanceof 331, 3) := dd112_0.2.2.2.2.2.2.2.2.1
theorem d112_55 : decode prog_1_method_41_code 55 = .ok (.ireturn, 1) := dd112_0.2.2.2.2.2.2.2.2.2.1
theorem d112_56 : decode prog_1_method_41_code 56 = .ok (.aload_n 0, 1) := dd112_0.2.2.2.2.2.2.2.2.2.2.1
theorem d112_57 : decode prog_1_method_41_code 57 = .ok (.instanceof 334, 3) := dd112_0.2.2.2.2.2.2.2.2.2.2.2.1
theorem d112_60 : decode prog_1_method_41_code 60 = .ok (.ireturn, 1) := dd112_0.2.2.2.2.2.2.2.2.2.2.2.2.1
theorem d112_61 : decode prog_1_method_41_code 61 = .ok (.aload_n 0, 1) := dd112_0.2.2.2.2.2.2.2.2.2.2.2.2.2.1
theorem d112_62 : decode prog_1_method_41_code 62 = .ok (.instanceof 337, 3) := dd112_0.2.2.2.2.2.2.2.2.2.2.2.2.2.2.1
theorem d112_65 : decode prog_1_method_41_code 65 = .ok (.ireturn, 1) := dd112_0.2.2.2.2.2.2.2.2.2.2.2.2.2.2.2
theorem dd112_66 : (decode prog_1_method_41_code 66 = .ok (.aload_n 0, 1)) ∧ (decode prog_1_method_41_code 67 = .ok (.instanceof 340, 3)) ∧ (decode prog_1_method_41_code 70 = .ok (.ireturn, 1)) ∧ (decode prog_1_method_41_code 71 = .ok (.aload_n 0, 1)) ∧ (decode prog_1_method_41_code 72 = .ok (.instanceof 343, 3)) ∧ (decode prog_1_method_41_code 75 = .ok (.ireturn, 1)) ∧ (decode prog_1_method_41_code 76 = .ok (.iconst 0, 1)) ∧ (decode prog_1_method_41_code 77 = .ok (.ireturn, 1)) := by decide +kernel
theorem d112_66 : decode prog_1_method_41_code 66 = .ok (.aload_n 0, 1) := dd112_66.1
theorem d112_67 : decode prog_1_method_41_code 67 = .ok (.instanceof 340, 3) := dd112_66.2.1
theorem d112_70 : decode prog_1_method_41_code 70 = .ok (.ireturn, 1) := dd112_66.2.2.1
theorem d112_71 : decode prog_1_method_41_code 71 = .ok (.aload_n 0, 1) := dd112_66.2.2.2.1
theorem d112_72 : decode prog_1_method_41_code 72 = .ok (.instanceof 343, 3) := dd112_66.2.2.2.2.1
theorem d112_75 : decode prog_1_method_41_code 75 = .ok (.ireturn, 1) := dd112_66.2.2.2.2.2.1
theorem d112_76 : decode prog_1_method_41_code 76 = .ok (.iconst 0, 1) := dd112_66.2.2.2.2.2.2.1
theorem d112_77 : decode prog_1_method_41_code 77 = .ok (.ireturn, 1) := dd112_66.2.2.2.2.2.2.2
theorem b112_0 {d : Nat} {S : mm_S} {a0 : Nat} {x1 : Int32} : mm_ex d 112 0 [.ref a0, .int x1] [] S =
    mm_ex d 112 1 [.ref a0, .int x1] [.int x1] S :=
  (mx_iload_n t112 d112_0 (x := x1) rfl)
theorem b112_1 {d : Nat} {S : mm_S} {a0 : Nat} {x1 : Int32} {p0 : Int32} : mm_ex d 112 1 [.ref a0, .int x1] [.int p0] S =
    if p0 = nI 0 then mm_ex d 112 44 [.ref a0, .int x1] [] S else if p0 = nI 1 then mm_ex d 112 46 [.ref a0, .int x1] [] S else if p0 = nI 2 then mm_ex d 112 51 [.ref a0, .int x1] [] S else if p0 = nI 3 then mm_ex d 112 56 [.ref a0, .int x1] [] S else if p0 = nI 4 then mm_ex d 112 61 [.ref a0, .int x1] [] S else if p0 = nI 5 then mm_ex d 112 66 [.ref a0, .int x1] [] S else if p0 = nI 6 then mm_ex d 112 71 [.ref a0, .int x1] [] S else mm_ex d 112 76 [.ref a0, .int x1] [] S := by
  by_cases e0 : p0 = nI 0
  · subst e0
    rw [if_pos rfl]
    exact mx_tswI t112 d112_1 (by decide) (off := 43) (by decide) (by decide)
  by_cases e1 : p0 = nI 1
  · subst e1
    rw [if_neg (by decide), if_pos rfl]
    exact mx_tswI t112 d112_1 (by decide) (off := 45) (by decide) (by decide)
  by_cases e2 : p0 = nI 2
  · subst e2
    rw [if_neg (by decide), if_neg (by decide), if_pos rfl]
    exact mx_tswI t112 d112_1 (by decide) (off := 50) (by decide) (by decide)
  by_cases e3 : p0 = nI 3
  · subst e3
    rw [if_neg (by decide), if_neg (by decide), if_neg (by decide), if_pos rfl]
    exact mx_tswI t112 d112_1 (by decide) (off := 55) (by decide) (by decide)
  by_cases e4 : p0 = nI 4
  · subst e4
    rw [if_neg (by decide), if_neg (by decide), if_neg (by decide), if_neg (by decide), if_pos rfl]
    exact mx_tswI t112 d112_1 (by decide) (off := 60) (by decide) (by decide)
  by_cases e5 : p0 = nI 5
  · subst e5
    rw [if_neg (by decide), if_neg (by decide), if_neg (by decide), if_neg (by decide), if_neg (by decide), if_pos rfl]
    exact mx_tswI t112 d112_1 (by decide) (off := 65) (by decide) (by decide)
  by_cases e6 : p0 = nI 6
  · subst e6
    rw [if_neg (by decide), if_neg (by decide), if_neg (by decide), if_neg (by decide), if_neg (by decide), if_neg (by decide), if_pos rfl]
    exact mx_tswI t112 d112_1 (by decide) (off := 70) (by decide) (by decide)
  rw [if_neg e0, if_neg e1, if_neg e2, if_neg e3, if_neg e4, if_neg e5, if_neg e6]
  have g0 := mm_ni32 e0
  have g1 := mm_ni32 e1
  have g2 := mm_ni32 e2
  have g3 := mm_ni32 e3
  have g4 := mm_ni32 e4
  have g5 := mm_ni32 e5
  have g6 := mm_ni32 e6
  rw [show (nI 0 : Int32).toInt = 0 by decide] at g0
  rw [show (nI 1 : Int32).toInt = 1 by decide] at g1
  rw [show (nI 2 : Int32).toInt = 2 by decide] at g2
  rw [show (nI 3 : Int32).toInt = 3 by decide] at g3
  rw [show (nI 4 : Int32).toInt = 4 by decide] at g4
  rw [show (nI 5 : Int32).toInt = 5 by decide] at g5
  rw [show (nI 6 : Int32).toInt = 6 by decide] at g6
  exact mx_tswD t112 d112_1 (by omega) (by decide)
theorem b112_44 {d : Nat} {S : mm_S} {a0 : Nat} {x1 : Int32} : mm_ex d 112 44 [.ref a0, .int x1] [] S =
    some (some (.int (nI 1)), S) :=
  Eq.trans (mx_iconst t112 d112_44 (v := nI 1) rfl) <|
  (mx_iret t112 d112_45 (ty := .boolean) rfl rfl (fun h => nomatch h))
theorem b112_46 {d : Nat} {S : mm_S} {a0 : Nat} {x1 : Int32} (h0 : mm_obj S a0 0 = true) (h1 : narrow .boolean (.int (if mm_K S a0 ∈ ([4, 7] : List Nat) then 1 else 0)) = .int (if mm_K S a0 ∈ ([4, 7] : List Nat) then 1 else 0)) : mm_ex d 112 46 [.ref a0, .int x1] [] S =
    some (some (.int (if mm_K S a0 ∈ ([4, 7] : List Nat) then 1 else 0)), S) :=
  Eq.trans (mx_aload_n t112 d112_46 (x := a0) rfl) <|
  Eq.trans (mx_inst t112 d112_47 io11_326 h0) <|
  (mx_iret t112 d112_50 (ty := .boolean) rfl h1 (fun h => nomatch h))
theorem b112_51 {d : Nat} {S : mm_S} {a0 : Nat} {x1 : Int32} (h0 : mm_obj S a0 0 = true) (h1 : narrow .boolean (.int (if mm_K S a0 ∈ ([3, 10] : List Nat) then 1 else 0)) = .int (if mm_K S a0 ∈ ([3, 10] : List Nat) then 1 else 0)) : mm_ex d 112 51 [.ref a0, .int x1] [] S =
    some (some (.int (if mm_K S a0 ∈ ([3, 10] : List Nat) then 1 else 0)), S) :=
  Eq.trans (mx_aload_n t112 d112_51 (x := a0) rfl) <|
  Eq.trans (mx_inst t112 d112_52 io11_331 h0) <|
  (mx_iret t112 d112_55 (ty := .boolean) rfl h1 (fun h => nomatch h))
theorem b112_56 {d : Nat} {S : mm_S} {a0 : Nat} {x1 : Int32} (h0 : mm_obj S a0 0 = true) (h1 : narrow .boolean (.int (if mm_K S a0 ∈ ([2, 9] : List Nat) then 1 else 0)) = .int (if mm_K S a0 ∈ ([2, 9] : List Nat) then 1 else 0)) : mm_ex d 112 56 [.ref a0, .int x1] [] S =
    some (some (.int (if mm_K S a0 ∈ ([2, 9] : List Nat) then 1 else 0)), S) :=
  Eq.trans (mx_aload_n t112 d112_56 (x := a0) rfl) <|
  Eq.trans (mx_inst t112 d112_57 io11_334 h0) <|
  (mx_iret t112 d112_60 (ty := .boolean) rfl h1 (fun h => nomatch h))
theorem b112_61 {d : Nat} {S : mm_S} {a0 : Nat} {x1 : Int32} (h0 : mm_obj S a0 0 = true) (h1 : narrow .boolean (.int (if mm_K S a0 ∈ ([7] : List Nat) then 1 else 0)) = .int (if mm_K S a0 ∈ ([7] : List Nat) then 1 else 0)) : mm_ex d 112 61 [.ref a0, .int x1] [] S =
    some (some (.int (if mm_K S a0 ∈ ([7] : List Nat) then 1 else 0)), S) :=
  Eq.trans (mx_aload_n t112 d112_61 (x := a0) rfl) <|
  Eq.trans (mx_inst t112 d112_62 io11_337 h0) <|
  (mx_iret t112 d112_65 (ty := .boolean) rfl h1 (fun h => nomatch h))
theorem b112_66 {d : Nat} {S : mm_S} {a0 : Nat} {x1 : Int32} (h0 : mm_obj S a0 0 = true) (h1 : narrow .boolean (.int (if mm_K S a0 ∈ ([3] : List Nat) then 1 else 0)) = .int (if mm_K S a0 ∈ ([3] : List Nat) then 1 else 0)) : mm_ex d 112 66 [.ref a0, .int x1] [] S =
    some (some (.int (if mm_K S a0 ∈ ([3] : List Nat) then 1 else 0)), S) :=
  Eq.trans (mx_aload_n t112 d112_66 (x := a0) rfl) <|
  Eq.trans (mx_inst t112 d112_67 io11_340 h0) <|
  (mx_iret t112 d112_70 (ty := .boolean) rfl h1 (fun h => nomatch h))
theorem b112_71 {d : Nat} {S : mm_S} {a0 : Nat} {x1 : Int32} (h0 : mm_obj S a0 0 = true) (h1 : narrow .boolean (.int (if mm_K S a0 ∈ ([9] : List Nat) then 1 else 0)) = .int (if mm_K S a0 ∈ ([9] : List Nat) then 1 else 0)) : mm_ex d 112 71 [.ref a0, .int x1] [] S =
    some (some (.int (if mm_K S a0 ∈ ([9] : List Nat) then 1 else 0)), S) :=
  Eq.trans (mx_aload_n t112 d112_71 (x := a0) rfl) <|
  Eq.trans (mx_inst t112 d112_72 io11_343 h0) <|
  (mx_iret t112 d112_75 (ty := .boolean) rfl h1 (fun h => nomatch h))
theorem b112_76 {d : Nat} {S : mm_S} {a0 : Nat} {x1 : Int32} : mm_ex d 112 76 [.ref a0, .int x1] [] S =
    some (some (.int (nI 0)), S) :=
  Eq.trans (mx_iconst t112 d112_76 (v := nI 0) rfl) <|
  (mx_iret t112 d112_77 (ty := .boolean) rfl rfl (fun h => nomatch h))
theorem e112 {d : Nat} {S : mm_S} {a0 : Nat} {x1 : Int32} : mm_cl d 112 [.ref a0, .int x1] S = mm_ex d 112 0 [.ref a0, .int x1] [] S := mm_cl_eq t112 (Nat.le_of_ble_eq_true rfl) rfl
/-! X11_runTrial -/
theorem d113_0 : decode prog_1_method_42_code 0 = .ok (.aload_n 0, 1) := by decide +kernel
theorem d113_1 : decode prog_1_method_42_code 1 = .ok (.getfield 26, 3) := by decide +kernel
theorem d113_4 : decode prog_1_method_42_code 4 = .ok (.aload_n 0, 1) := by decide +kernel
theorem d113_5 : decode prog_1_method_42_code 5 = .ok (.getfield 17, 3) := by decide +kernel
theorem d113_8 : decode prog_1_method_42_code 8 = .ok (.invokevirtual 184, 3) := by decide +kernel
theorem d113_11 : decode prog_1_method_42_code 11 = .ok (.aload_n 0, 1) := by decide +kernel
theorem d113_12 : decode prog_1_method_42_code 12 = .ok (.getfield 26, 3) := by decide +kernel
theorem d113_15 : decode prog_1_method_42_code 15 = .ok (.invokevirtual 218, 3) := by decide +kernel
theorem d113_18 : decode prog_1_method_42_code 18 = .ok (.return_, 1) := by decide +kernel
theorem b113_0 {d : Nat} {S : mm_S} {a0 : Nat} (h0 : mm_obj S a0 11 = true) (h1 : (mm_R S a0 2).isSome = true) (h2 : (mm_R S a0 0).isSome = true) (h3 : mm_rk S (mm_rg S a0 2) = 1) : mm_ex (d + 1) 113 0 [.ref a0] [] S =
    mm_bd (mm_cl d 7 [.ref (mm_rg S a0 2), .ref (mm_rg S a0 0)] S) (fun v S2 => mm_ex (d + 1) 113 11 [.ref a0] (v.toList ++ []) S2) :=
  Eq.trans (mx_aload_n t113 d113_0 (x := a0) rfl) <|
  Eq.trans (mx_getR t113 d113_1 rfl fl11_26 h0 h1) <|
  Eq.trans (mx_aload_n t113 d113_4 (x := a0) rfl) <|
  Eq.trans (mx_getR t113 d113_5 rfl fl11_17 h0 h2) <|
  (mx_virt (st := []) (k := 1) t113 [.ref (mm_rg S a0 0)] d113_8 vt11_184 rfl rfl (Nat.le_of_ble_eq_true rfl) (Nat.le_of_ble_eq_true rfl) h3)
theorem b113_11 {d : Nat} {S : mm_S} {a0 : Nat} (h0 : mm_obj S a0 11 = true) (h1 : (mm_R S a0 2).isSome = true) (h2 : mm_rk S (mm_rg S a0 2) = 1) : mm_ex (d + 1) 113 11 [.ref a0] [] S =
    mm_bd (mm_cl d 23 [.ref (mm_rg S a0 2)] S) (fun v S2 => mm_ex (d + 1) 113 18 [.ref a0] (v.toList ++ []) S2) :=
  Eq.trans (mx_aload_n t113 d113_11 (x := a0) rfl) <|
  Eq.trans (mx_getR t113 d113_12 rfl fl11_26 h0 h1) <|
  (mx_virt (st := []) (k := 1) t113 [] d113_15 vt11_218 rfl rfl (Nat.le_of_ble_eq_true rfl) (Nat.le_of_ble_eq_true rfl) h2)
theorem b113_18 {d : Nat} {S : mm_S} {a0 : Nat} : mm_ex d 113 18 [.ref a0] [] S =
    some (none, S) :=
  (mx_vret t113 d113_18 rfl)
theorem e113 {d : Nat} {S : mm_S} {a0 : Nat} : mm_cl d 113 [.ref a0] S = mm_ex d 113 0 [.ref a0] [] S := mm_cl_eq t113 (Nat.le_of_ble_eq_true rfl) rfl
/-! X11_whoGetsLoaves -/
theorem dd114_0 : (decode prog_1_method_43_code 0 = .ok (.aload_n 0, 1)) ∧ (decode prog_1_method_43_code 1 = .ok (.getfield 26, 3)) ∧ (decode prog_1_method_43_code 4 = .ok (.aload_n 0, 1)) ∧ (decode prog_1_method_43_code 5 = .ok (.getfield 17, 3)) ∧ (decode prog_1_method_43_code 8 = .ok (.invokevirtual 184, 3)) ∧ (decode prog_1_method_43_code 11 = .ok (.iconst 0, 1)) ∧ (decode prog_1_method_43_code 12 = .ok (.istore_n 1, 1)) ∧ (decode prog_1_method_43_code 13 = .ok (.iconst 0, 1)) ∧ (decode prog_1_method_43_code 14 = .ok (.istore_n 2, 1)) ∧ (decode prog_1_method_43_code 15 = .ok (.iload_n 2, 1)) ∧ (decode prog_1_method_43_code 16 = .ok (.sipush 1000, 3)) ∧ (decode prog_1_method_43_code 19 = .ok (.if_icmp .ge 44, 3)) ∧ (decode prog_1_method_43_code 22 = .ok (.aload_n 0, 1)) ∧ (decode prog_1_method_43_code 23 = .ok (.getfield 26, 3)) ∧ (decode prog_1_method_43_code 26 = .ok (.invokevirtual 195, 3)) ∧ (decode prog_1_method_43_code 29 = .ok (.ifCond .eq 34, 3)) := by decide +kernel
theorem d114_0 : decode prog_1_method_43_code 0 = .ok (.aload_n 0, 1) := dd114_0.1
theorem d114_1 : decode prog_1_method_43_code 1 = .ok (.getfield 26, 3) := dd114_0.2.1
theorem d114_4 : decode prog_1_method_43_code 4 = .ok (.aload_n 0, 1) := dd114_0.2.2.1
theorem d114_5 : decode prog_1_method_43_code 5 = .ok (.getfield 17, 3) := dd114_0.2.2.2.1
theorem d114_8 : decode prog_1_method_43_code 8 = .ok (.invokevirtual 184, 3) := dd114_0.2.2.2.2.1
theorem d114_11 : decode prog_1_method_43_code 11 = .ok (.iconst 0, 1) := dd114_0.2.2.2.2.2.1
theorem d114_12 : decode prog_1_method_43_code 12 = .ok (.istore_n 1, 1) := dd114_0.2.2.2.2.2.2.1
theorem d114_13 : decode prog_1_method_43_code 13 = .ok (.iconst 0, 1) := dd114_0.2.2.2.2.2.2.2.1
theorem d114_14 : decode prog_1_method_43_code 14 = .ok (.istore_n 2, 1) := dd114_0.2.2.2.2.2.2.2.2.1
theorem d114_15 : decode prog_1_method_43_code 15 = .ok (.iload_n 2, 1) := dd114_0.2.2.2.2.2.2.2.2.2.1
theorem d114_16 : decode prog_1_method_43_code 16 = .ok (.sipush 1000, 3) := dd114_0.2.2.2.2.2.2.2.2.2.2.1
theorem d114_19 : decode prog_1_method_43_code 19 = .ok (.if_icmp .ge 44, 3) := dd114_0.2.2.2.2.2.2.2.2.2.2.2.1
theorem d114_22 : decode prog_1_method_43_code 22 = .ok (.aload_n 0, 1) := dd114_0.2.2.2.2.2.2.2.2.2.2.2.2.1
theorem d114_23 : decode prog_1_method_43_code 23 = .ok (.getfield 26, 3) := dd114_0.2.2.2.2.2.2.2.2.2.2.2.2.2.1
theorem d114_26 : decode prog_1_method_43_code 26 = .ok (.invokevirtual 195, 3) := dd114_0.2.2.2.2.2.2.2.2.2.2.2.2.2.2.1
theorem d114_29 : decode prog_1_method_43_code 29 = .ok (.ifCond .eq 34, 3) := dd114_0.2.2.2.2.2.2.2.2.2.2.2.2.2.2.2
theorem dd114_32 : (decode prog_1_method_43_code 32 = .ok (.aload_n 0, 1)) ∧ (decode prog_1_method_43_code 33 = .ok (.getfield 26, 3)) ∧ (decode prog_1_method_43_code 36 = .ok (.invokevirtual 180, 3)) ∧ (decode prog_1_method_43_code 39 = .ok (.istore_n 3, 1)) ∧ (decode prog_1_method_43_code 40 = .ok (.aload_n 0, 1)) ∧ (decode prog_1_method_43_code 41 = .ok (.getfield 26, 3)) ∧ (decode prog_1_method_43_code 44 = .ok (.invokevirtual 199, 3)) ∧ (decode prog_1_method_43_code 47 = .ok (.iconst 1, 1)) ∧ (decode prog_1_method_43_code 48 = .ok (.if_icmp .ne 9, 3)) ∧ (decode prog_1_method_43_code 51 = .ok (.iload_n 1, 1)) ∧ (decode prog_1_method_43_code 52 = .ok (.iconst 1, 1)) ∧ (decode prog_1_method_43_code 53 = .ok (.iload_n 3, 1)) ∧ (decode prog_1_method_43_code 54 = .ok (.ishl, 1)) ∧ (decode prog_1_method_43_code 55 = .ok (.ior, 1)) ∧ (decode prog_1_method_43_code 56 = .ok (.istore_n 1, 1)) ∧ (decode prog_1_method_43_code 57 = .ok (.iinc 2 1, 3)) := by decide +kernel
theorem d114_32 : decode prog_1_method_43_code 32 = .ok (.aload_n 0, 1) := dd114_32.1
theorem d114_33 : decode prog_1_method_43_code 33 = .ok (.getfield 26, 3) := dd114_32.2.1
theorem d114_36 : decode prog_1_method_43_code 36 = .ok (.invokevirtual 180, 3) := dd114_32.2.2.1
theorem d114_39 : decode prog_1_method_43_code 39 = .ok (.istore_n 3, 1) := dd114_32.2.2.2.1
theorem d114_40 : decode prog_1_method_43_code 40 = .ok (.aload_n 0, 1) := dd114_32.2.2.2.2.1
theorem d114_41 : decode prog_1_method_43_code 41 = .ok (.getfield 26, 3) := dd114_32.2.2.2.2.2.1
theorem d114_44 : decode prog_1_method_43_code 44 = .ok (.invokevirtual 199, 3) := dd114_32.2.2.2.2.2.2.1
theorem d114_47 : decode prog_1_method_43_code 47 = .ok (.iconst 1, 1) := dd114_32.2.2.2.2.2.2.2.1
theorem d114_48 : decode prog_1_method_43_code 48 = .ok (.if_icmp .ne 9, 3) := dd114_32.2.2.2.2.2.2.2.2.1
theorem d114_51 : decode prog_1_method_43_code 51 = .ok (.iload_n 1, 1) := dd114_32.2.2.2.2.2.2.2.2.2.1
theorem d114_52 : decode prog_1_method_43_code 52 = .ok (.iconst 1, 1) := dd114_32.2.2.2.2.2.2.2.2.2.2.1
theorem d114_53 : decode prog_1_method_43_code 53 = .ok (.iload_n 3, 1) := dd114_32.2.2.2.2.2.2.2.2.2.2.2.1
theorem d114_54 : decode prog_1_method_43_code 54 = .ok (.ishl, 1) := dd114_32.2.2.2.2.2.2.2.2.2.2.2.2.1
theorem d114_55 : decode prog_1_method_43_code 55 = .ok (.ior, 1) := dd114_32.2.2.2.2.2.2.2.2.2.2.2.2.2.1
theorem d114_56 : decode prog_1_method_43_code 56 = .ok (.istore_n 1, 1) := dd114_32.2.2.2.2.2.2.2.2.2.2.2.2.2.2.1
theorem d114_57 : decode prog_1_method_43_code 57 = .ok (.iinc 2 1, 3) := dd114_32.2.2.2.2.2.2.2.2.2.2.2.2.2.2.2
theorem dd114_60 : (decode prog_1_method_43_code 60 = .ok (.goto (-45), 3)) ∧ (decode prog_1_method_43_code 63 = .ok (.iload_n 1, 1)) ∧ (decode prog_1_method_43_code 64 = .ok (.ireturn, 1)) := by decide +kernel
theorem d114_60 : decode prog_1_method_43_code 60 = .ok (.goto (-45), 3) := dd114_60.1
theorem d114_63 : decode prog_1_method_43_code 63 = .ok (.iload_n 1, 1) := dd114_60.2.1
theorem d114_64 : decode prog_1_method_43_code 64 = .ok (.ireturn, 1) := dd114_60.2.2
theorem b114_0 {d : Nat} {S : mm_S} {a0 : Nat} (h0 : mm_obj S a0 11 = true) (h1 : (mm_R S a0 2).isSome = true) (h2 : (mm_R S a0 0).isSome = true) (h3 : mm_rk S (mm_rg S a0 2) = 1) : mm_ex (d + 1) 114 0 [.ref a0, .null, .null, .null] [] S =
    mm_bd (mm_cl d 7 [.ref (mm_rg S a0 2), .ref (mm_rg S a0 0)] S) (fun v S2 => mm_ex (d + 1) 114 11 [.ref a0, .null, .null, .null] (v.toList ++ []) S2) :=
  Eq.trans (mx_aload_n t114 d114_0 (x := a0) rfl) <|
  Eq.trans (mx_getR t114 d114_1 rfl fl11_26 h0 h1) <|
  Eq.trans (mx_aload_n t114 d114_4 (x := a0) rfl) <|
  Eq.trans (mx_getR t114 d114_5 rfl fl11_17 h0 h2) <|
  (mx_virt (st := []) (k := 1) t114 [.ref (mm_rg S a0 0)] d114_8 vt11_184 rfl rfl (Nat.le_of_ble_eq_true rfl) (Nat.le_of_ble_eq_true rfl) h3)
theorem b114_11 {d : Nat} {S : mm_S} {a0 : Nat} : mm_ex d 114 11 [.ref a0, .null, .null, .null] [] S =
    mm_ex d 114 15 [.ref a0, .int (nI 0), .int (nI 0), .null] [] S :=
  Eq.trans (mx_iconst t114 d114_11 (v := nI 0) rfl) <|
  Eq.trans (mx_istore_n t114 d114_12 (ls' := [.ref a0, .int (nI 0), .null, .null]) rfl rfl) <|
  Eq.trans (mx_iconst t114 d114_13 (v := nI 0) rfl) <|
  (mx_istore_n t114 d114_14 (ls' := [.ref a0, .int (nI 0), .int (nI 0), .null]) rfl rfl)
theorem b114_15 {d : Nat} {S : mm_S} {a0 : Nat} {x1 : Int32} {x2 : Int32} {v3 : Value} : mm_ex d 114 15 [.ref a0, .int x1, .int x2, v3] [] S =
    if (nI 1000) ≤ x2 then mm_ex d 114 63 [.ref a0, .int x1, .int x2, v3] [] S else mm_ex d 114 22 [.ref a0, .int x1, .int x2, v3] [] S :=
  Eq.trans (mx_iload_n t114 d114_15 (x := x2) rfl) <|
  Eq.trans (mx_sipush t114 d114_16 (v := nI 1000) rfl) <|
  (mx_cge t114 d114_19 (tgt := 63) (by decide))
theorem b114_22 {d : Nat} {S : mm_S} {a0 : Nat} {x1 : Int32} {x2 : Int32} {v3 : Value} (h0 : mm_obj S a0 11 = true) (h1 : (mm_R S a0 2).isSome = true) (h2 : mm_rk S (mm_rg S a0 2) = 1) : mm_ex (d + 1) 114 22 [.ref a0, .int x1, .int x2, v3] [] S =
    mm_bd (mm_cl d 20 [.ref (mm_rg S a0 2)] S) (fun v S2 => mm_ex (d + 1) 114 29 [.ref a0, .int x1, .int x2, v3] (v.toList ++ []) S2) :=
  Eq.trans (mx_aload_n t114 d114_22 (x := a0) rfl) <|
  Eq.trans (mx_getR t114 d114_23 rfl fl11_26 h0 h1) <|
  (mx_virt (st := []) (k := 1) t114 [] d114_26 vt11_195 rfl rfl (Nat.le_of_ble_eq_true rfl) (Nat.le_of_ble_eq_true rfl) h2)
theorem b114_29 {d : Nat} {S : mm_S} {a0 : Nat} {x1 : Int32} {x2 : Int32} {v3 : Value} {p0 : Int32} : mm_ex d 114 29 [.ref a0, .int x1, .int x2, v3] [.int p0] S =
    if p0 = nI 0 then mm_ex d 114 63 [.ref a0, .int x1, .int x2, v3] [] S else mm_ex d 114 32 [.ref a0, .int x1, .int x2, v3] [] S :=
  (mx_ieq t114 d114_29 (tgt := 63) (by decide))
theorem b114_32 {d : Nat} {S : mm_S} {a0 : Nat} {x1 : Int32} {x2 : Int32} {v3 : Value} (h0 : mm_obj S a0 11 = true) (h1 : (mm_R S a0 2).isSome = true) (h2 : mm_rk S (mm_rg S a0 2) = 1) : mm_ex (d + 1) 114 32 [.ref a0, .int x1, .int x2, v3] [] S =
    mm_bd (mm_cl d 11 [.ref (mm_rg S a0 2)] S) (fun v S2 => mm_ex (d + 1) 114 39 [.ref a0, .int x1, .int x2, v3] (v.toList ++ []) S2) :=
  Eq.trans (mx_aload_n t114 d114_32 (x := a0) rfl) <|
  Eq.trans (mx_getR t114 d114_33 rfl fl11_26 h0 h1) <|
  (mx_virt (st := []) (k := 1) t114 [] d114_36 vt11_180 rfl rfl (Nat.le_of_ble_eq_true rfl) (Nat.le_of_ble_eq_true rfl) h2)
theorem b114_39 {d : Nat} {S : mm_S} {a0 : Nat} {x1 : Int32} {x2 : Int32} {v3 : Value} {p0 : Int32} (h0 : mm_obj S a0 11 = true) (h1 : (mm_R S a0 2).isSome = true) (h2 : mm_rk S (mm_rg S a0 2) = 1) : mm_ex (d + 1) 114 39 [.ref a0, .int x1, .int x2, v3] [.int p0] S =
    mm_bd (mm_cl d 21 [.ref (mm_rg S a0 2)] S) (fun v S2 => mm_ex (d + 1) 114 47 [.ref a0, .int x1, .int x2, .int p0] (v.toList ++ []) S2) :=
  Eq.trans (mx_istore_n t114 d114_39 (ls' := [.ref a0, .int x1, .int x2, .int p0]) rfl rfl) <|
  Eq.trans (mx_aload_n t114 d114_40 (x := a0) rfl) <|
  Eq.trans (mx_getR t114 d114_41 rfl fl11_26 h0 h1) <|
  (mx_virt (st := []) (k := 1) t114 [] d114_44 vt11_199 rfl rfl (Nat.le_of_ble_eq_true rfl) (Nat.le_of_ble_eq_true rfl) h2)
theorem b114_47 {d : Nat} {S : mm_S} {a0 : Nat} {x1 : Int32} {x2 : Int32} {x3 : Int32} {p0 : Int32} : mm_ex d 114 47 [.ref a0, .int x1, .int x2, .int x3] [.int p0] S =
    if p0 = (nI 1) then mm_ex d 114 51 [.ref a0, .int x1, .int x2, .int x3] [] S else mm_ex d 114 57 [.ref a0, .int x1, .int x2, .int x3] [] S :=
  Eq.trans (mx_iconst t114 d114_47 (v := nI 1) rfl) <|
  (mx_cne t114 d114_48 (tgt := 57) (by decide))
theorem b114_51 {d : Nat} {S : mm_S} {a0 : Nat} {x1 : Int32} {x2 : Int32} {x3 : Int32} : mm_ex d 114 51 [.ref a0, .int x1, .int x2, .int x3] [] S =
    mm_ex d 114 15 [.ref a0, .int (x1 ||| ((nI 1) <<< (x3 &&& 31))), .int (x2 + nI 1), .int x3] [] S :=
  Eq.trans (mx_iload_n t114 d114_51 (x := x1) rfl) <|
  Eq.trans (mx_iconst t114 d114_52 (v := nI 1) rfl) <|
  Eq.trans (mx_iload_n t114 d114_53 (x := x3) rfl) <|
  Eq.trans (mx_ishl t114 d114_54) <|
  Eq.trans (mx_ior t114 d114_55) <|
  Eq.trans (mx_istore_n t114 d114_56 (ls' := [.ref a0, .int (x1 ||| ((nI 1) <<< (x3 &&& 31))), .int x2, .int x3]) rfl rfl) <|
  Eq.trans (mx_iinc t114 d114_57 (x := x2) (v := nI 1) (ls' := [.ref a0, .int (x1 ||| ((nI 1) <<< (x3 &&& 31))), .int (x2 + nI 1), .int x3]) rfl rfl rfl rfl) <|
  (mx_goto t114 d114_60 (tgt := 15) (by decide))
theorem b114_57 {d : Nat} {S : mm_S} {a0 : Nat} {x1 : Int32} {x2 : Int32} {x3 : Int32} : mm_ex d 114 57 [.ref a0, .int x1, .int x2, .int x3] [] S =
    mm_ex d 114 15 [.ref a0, .int x1, .int (x2 + nI 1), .int x3] [] S :=
  Eq.trans (mx_iinc t114 d114_57 (x := x2) (v := nI 1) (ls' := [.ref a0, .int x1, .int (x2 + nI 1), .int x3]) rfl rfl rfl rfl) <|
  (mx_goto t114 d114_60 (tgt := 15) (by decide))
theorem b114_63 {d : Nat} {S : mm_S} {a0 : Nat} {x1 : Int32} {x2 : Int32} {v3 : Value} : mm_ex d 114 63 [.ref a0, .int x1, .int x2, v3] [] S =
    some (some (.int x1), S) :=
  Eq.trans (mx_iload_n t114 d114_63 (x := x1) rfl) <|
  (mx_iret t114 d114_64 (ty := .int) rfl rfl (fun h => nomatch h))
theorem e114 {d : Nat} {S : mm_S} {a0 : Nat} : mm_cl d 114 [.ref a0] S = mm_ex d 114 0 [.ref a0, .null, .null, .null] [] S := mm_cl_eq t114 (Nat.le_of_ble_eq_true rfl) rfl
/-! X11_nobodyRefuses -/
theorem dd115_0 : (decode prog_1_method_44_code 0 = .ok (.aload_n 0, 1)) ∧ (decode prog_1_method_44_code 1 = .ok (.getfield 26, 3)) ∧ (decode prog_1_method_44_code 4 = .ok (.aload_n 0, 1)) ∧ (decode prog_1_method_44_code 5 = .ok (.getfield 17, 3)) ∧ (decode prog_1_method_44_code 8 = .ok (.invokevirtual 184, 3)) ∧ (decode prog_1_method_44_code 11 = .ok (.aload_n 0, 1)) ∧ (decode prog_1_method_44_code 12 = .ok (.getfield 26, 3)) ∧ (decode prog_1_method_44_code 15 = .ok (.iload_n 1, 1)) ∧ (decode prog_1_method_44_code 16 = .ok (.putfield 347, 3)) ∧ (decode prog_1_method_44_code 19 = .ok (.iconst 0, 1)) ∧ (decode prog_1_method_44_code 20 = .ok (.istore_n 2, 1)) ∧ (decode prog_1_method_44_code 21 = .ok (.iload_n 2, 1)) ∧ (decode prog_1_method_44_code 22 = .ok (.sipush 1000, 3)) ∧ (decode prog_1_method_44_code 25 = .ok (.if_icmp .ge 32, 3)) ∧ (decode prog_1_method_44_code 28 = .ok (.aload_n 0, 1)) ∧ (decode prog_1_method_44_code 29 = .ok (.getfield 26, 3)) := by decide +kernel
theorem d115_0 : decode prog_1_method_44_code 0 = .ok (.aload_n 0, 1) := dd115_0.1
theorem d115_1 : decode prog_1_method_44_code 1 = .ok (.getfield 26, 3) := dd115_0.2.1
theorem d115_4 : decode prog_1_method_44_code 4 = .ok (.aload_n 0, 1) := dd115_0.2.2.1
theorem d115_5 : decode prog_1_method_44_code 5 = .ok (.getfield 17, 3) := dd115_0.2.2.2.1
theorem d115_8 : decode prog_1_method_44_code 8 = .ok (.invokevirtual 184, 3) := dd115_0.2.2.2.2.1
theorem d115_11 : decode prog_1_method_44_code 11 = .ok (.aload_n 0, 1) := dd115_0.2.2.2.2.2.1
theorem d115_12 : decode prog_1_method_44_code 12 = .ok (.getfield 26, 3) := dd115_0.2.2.2.2.2.2.1
theorem d115_15 : decode prog_1_method_44_code 15 = .ok (.iload_n 1, 1) := dd115_0.2.2.2.2.2.2.2.1
theorem d115_16 : decode prog_1_method_44_code 16 = .ok (.putfield 347, 3) := dd115_0.2.2.2.2.2.2.2.2.1
theorem d115_19 : decode prog_1_method_44_code 19 = .ok (.iconst 0, 1) := dd115_0.2.2.2.2.2.2.2.2.2.1
theorem d115_20 : decode prog_1_method_44_code 20 = .ok (.istore_n 2, 1) := dd115_0.2.2.2.2.2.2.2.2.2.2.1
theorem d115_21 : decode prog_1_method_44_code 21 = .ok (.iload_n 2, 1) := dd115_0.2.2.2.2.2.2.2.2.2.2.2.1
theorem d115_22 : decode prog_1_method_44_code 22 = .ok (.sipush 1000, 3) := dd115_0.2.2.2.2.2.2.2.2.2.2.2.2.1
theorem d115_25 : decode prog_1_method_44_code 25 = .ok (.if_icmp .ge 32, 3) := dd115_0.2.2.2.2.2.2.2.2.2.2.2.2.2.1
theorem d115_28 : decode prog_1_method_44_code 28 = .ok (.aload_n 0, 1) := dd115_0.2.2.2.2.2.2.2.2.2.2.2.2.2.2.1
theorem d115_29 : decode prog_1_method_44_code 29 = .ok (.getfield 26, 3) := dd115_0.2.2.2.2.2.2.2.2.2.2.2.2.2.2.2
theorem dd115_32 : (decode prog_1_method_44_code 32 = .ok (.invokevirtual 195, 3)) ∧ (decode prog_1_method_44_code 35 = .ok (.ifCond .eq 22, 3)) ∧ (decode prog_1_method_44_code 38 = .ok (.aload_n 0, 1)) ∧ (decode prog_1_method_44_code 39 = .ok (.getfield 26, 3)) ∧ (decode prog_1_method_44_code 42 = .ok (.invokevirtual 199, 3)) ∧ (decode prog_1_method_44_code 45 = .ok (.iconst 2, 1)) ∧ (decode prog_1_method_44_code 46 = .ok (.if_icmp .ne 5, 3)) ∧ (decode prog_1_method_44_code 49 = .ok (.iconst 0, 1)) ∧ (decode prog_1_method_44_code 50 = .ok (.ireturn, 1)) ∧ (decode prog_1_method_44_code 51 = .ok (.iinc 2 1, 3)) ∧ (decode prog_1_method_44_code 54 = .ok (.goto (-33), 3)) ∧ (decode prog_1_method_44_code 57 = .ok (.iconst 1, 1)) ∧ (decode prog_1_method_44_code 58 = .ok (.ireturn, 1)) := by decide +kernel
theorem d115_32 : decode prog_1_method_44_code 32 = .ok (.invokevirtual 195, 3) := dd115_32.1
theorem d115_35 : decode prog_1_method_44_code 35 = .ok (.ifCond .eq 22, 3) := dd115_32.2.1
theorem d115_38 : decode prog_1_method_44_code 38 = .ok (.aload_n 0, 1) := dd115_32.2.2.1
theorem d115_39 : decode prog_1_method_44_code 39 = .ok (.getfield 26, 3) := dd115_32.2.2.2.1
theorem d115_42 : decode prog_1_method_44_code 42 = .ok (.invokevirtual 199, 3) := dd115_32.2.2.2.2.1
theorem d115_45 : decode prog_1_method_44_code 45 = .ok (.iconst 2, 1) := dd115_32.2.2.2.2.2.1
theorem d115_46 : decode prog_1_method_44_code 46 = .ok (.if_icmp .ne 5, 3) := dd115_32.2.2.2.2.2.2.1
theorem d115_49 : decode prog_1_method_44_code 49 = .ok (.iconst 0, 1) := dd115_32.2.2.2.2.2.2.2.1
theorem d115_50 : decode prog_1_method_44_code 50 = .ok (.ireturn, 1) := dd115_32.2.2.2.2.2.2.2.2.1
theorem d115_51 : decode prog_1_method_44_code 51 = .ok (.iinc 2 1, 3) := dd115_32.2.2.2.2.2.2.2.2.2.1
theorem d115_54 : decode prog_1_method_44_code 54 = .ok (.goto (-33), 3) := dd115_32.2.2.2.2.2.2.2.2.2.2.1
theorem d115_57 : decode prog_1_method_44_code 57 = .ok (.iconst 1, 1) := dd115_32.2.2.2.2.2.2.2.2.2.2.2.1
theorem d115_58 : decode prog_1_method_44_code 58 = .ok (.ireturn, 1) := dd115_32.2.2.2.2.2.2.2.2.2.2.2.2
theorem b115_0 {d : Nat} {S : mm_S} {a0 : Nat} {x1 : Int32} (h0 : mm_obj S a0 11 = true) (h1 : (mm_R S a0 2).isSome = true) (h2 : (mm_R S a0 0).isSome = true) (h3 : mm_rk S (mm_rg S a0 2) = 1) : mm_ex (d + 1) 115 0 [.ref a0, .int x1, .null] [] S =
    mm_bd (mm_cl d 7 [.ref (mm_rg S a0 2), .ref (mm_rg S a0 0)] S) (fun v S2 => mm_ex (d + 1) 115 11 [.ref a0, .int x1, .null] (v.toList ++ []) S2) :=
  Eq.trans (mx_aload_n t115 d115_0 (x := a0) rfl) <|
  Eq.trans (mx_getR t115 d115_1 rfl fl11_26 h0 h1) <|
  Eq.trans (mx_aload_n t115 d115_4 (x := a0) rfl) <|
  Eq.trans (mx_getR t115 d115_5 rfl fl11_17 h0 h2) <|
  (mx_virt (st := []) (k := 1) t115 [.ref (mm_rg S a0 0)] d115_8 vt11_184 rfl rfl (Nat.le_of_ble_eq_true rfl) (Nat.le_of_ble_eq_true rfl) h3)
theorem b115_11 {d : Nat} {S : mm_S} {a0 : Nat} {x1 : Int32} (h0 : mm_obj S a0 11 = true) (h1 : (mm_R S a0 2).isSome = true) (h2 : mm_obj S (mm_rg S a0 2) 1 = true) : mm_ex d 115 11 [.ref a0, .int x1, .null] [] S =
    mm_ex d 115 21 [.ref a0, .int x1, .int (nI 0)] [] (mm_uM S (mm_rg S a0 2) 9 x1) :=
  Eq.trans (mx_aload_n t115 d115_11 (x := a0) rfl) <|
  Eq.trans (mx_getR t115 d115_12 rfl fl11_26 h0 h1) <|
  Eq.trans (mx_iload_n t115 d115_15 (x := x1) rfl) <|
  Eq.trans (mx_puti2 t115 d115_16 fl11_347 rfl h2) <|
  Eq.trans (mx_iconst t115 d115_19 (v := nI 0) rfl) <|
  (mx_istore_n t115 d115_20 (ls' := [.ref a0, .int x1, .int (nI 0)]) rfl rfl)
theorem b115_21 {d : Nat} {S : mm_S} {a0 : Nat} {x1 : Int32} {x2 : Int32} : mm_ex d 115 21 [.ref a0, .int x1, .int x2] [] S =
    if (nI 1000) ≤ x2 then mm_ex d 115 57 [.ref a0, .int x1, .int x2] [] S else mm_ex d 115 28 [.ref a0, .int x1, .int x2] [] S :=
  Eq.trans (mx_iload_n t115 d115_21 (x := x2) rfl) <|
  Eq.trans (mx_sipush t115 d115_22 (v := nI 1000) rfl) <|
  (mx_cge t115 d115_25 (tgt := 57) (by decide))
theorem b115_28 {d : Nat} {S : mm_S} {a0 : Nat} {x1 : Int32} {x2 : Int32} (h0 : mm_obj S a0 11 = true) (h1 : (mm_R S a0 2).isSome = true) (h2 : mm_rk S (mm_rg S a0 2) = 1) : mm_ex (d + 1) 115 28 [.ref a0, .int x1, .int x2] [] S =
    mm_bd (mm_cl d 20 [.ref (mm_rg S a0 2)] S) (fun v S2 => mm_ex (d + 1) 115 35 [.ref a0, .int x1, .int x2] (v.toList ++ []) S2) :=
  Eq.trans (mx_aload_n t115 d115_28 (x := a0) rfl) <|
  Eq.trans (mx_getR t115 d115_29 rfl fl11_26 h0 h1) <|
  (mx_virt (st := []) (k := 1) t115 [] d115_32 vt11_195 rfl rfl (Nat.le_of_ble_eq_true rfl) (Nat.le_of_ble_eq_true rfl) h2)
theorem b115_35 {d : Nat} {S : mm_S} {a0 : Nat} {x1 : Int32} {x2 : Int32} {p0 : Int32} : mm_ex d 115 35 [.ref a0, .int x1, .int x2] [.int p0] S =
    if p0 = nI 0 then mm_ex d 115 57 [.ref a0, .int x1, .int x2] [] S else mm_ex d 115 38 [.ref a0, .int x1, .int x2] [] S :=
  (mx_ieq t115 d115_35 (tgt := 57) (by decide))
theorem b115_38 {d : Nat} {S : mm_S} {a0 : Nat} {x1 : Int32} {x2 : Int32} (h0 : mm_obj S a0 11 = true) (h1 : (mm_R S a0 2).isSome = true) (h2 : mm_rk S (mm_rg S a0 2) = 1) : mm_ex (d + 1) 115 38 [.ref a0, .int x1, .int x2] [] S =
    mm_bd (mm_cl d 21 [.ref (mm_rg S a0 2)] S) (fun v S2 => mm_ex (d + 1) 115 45 [.ref a0, .int x1, .int x2] (v.toList ++ []) S2) :=
  Eq.trans (mx_aload_n t115 d115_38 (x := a0) rfl) <|
  Eq.trans (mx_getR t115 d115_39 rfl fl11_26 h0 h1) <|
  (mx_virt (st := []) (k := 1) t115 [] d115_42 vt11_199 rfl rfl (Nat.le_of_ble_eq_true rfl) (Nat.le_of_ble_eq_true rfl) h2)
theorem b115_45 {d : Nat} {S : mm_S} {a0 : Nat} {x1 : Int32} {x2 : Int32} {p0 : Int32} : mm_ex d 115 45 [.ref a0, .int x1, .int x2] [.int p0] S =
    if p0 = (nI 2) then mm_ex d 115 49 [.ref a0, .int x1, .int x2] [] S else mm_ex d 115 51 [.ref a0, .int x1, .int x2] [] S :=
  Eq.trans (mx_iconst t115 d115_45 (v := nI 2) rfl) <|
  (mx_cne t115 d115_46 (tgt := 51) (by decide))
theorem b115_49 {d : Nat} {S : mm_S} {a0 : Nat} {x1 : Int32} {x2 : Int32} : mm_ex d 115 49 [.ref a0, .int x1, .int x2] [] S =
    some (some (.int (nI 0)), S) :=
  Eq.trans (mx_iconst t115 d115_49 (v := nI 0) rfl) <|
  (mx_iret t115 d115_50 (ty := .boolean) rfl rfl (fun h => nomatch h))
theorem b115_51 {d : Nat} {S : mm_S} {a0 : Nat} {x1 : Int32} {x2 : Int32} : mm_ex d 115 51 [.ref a0, .int x1, .int x2] [] S =
    mm_ex d 115 21 [.ref a0, .int x1, .int (x2 + nI 1)] [] S :=
  Eq.trans (mx_iinc t115 d115_51 (x := x2) (v := nI 1) (ls' := [.ref a0, .int x1, .int (x2 + nI 1)]) rfl rfl rfl rfl) <|
  (mx_goto t115 d115_54 (tgt := 21) (by decide))
theorem b115_57 {d : Nat} {S : mm_S} {a0 : Nat} {x1 : Int32} {x2 : Int32} : mm_ex d 115 57 [.ref a0, .int x1, .int x2] [] S =
    some (some (.int (nI 1)), S) :=
  Eq.trans (mx_iconst t115 d115_57 (v := nI 1) rfl) <|
  (mx_iret t115 d115_58 (ty := .boolean) rfl rfl (fun h => nomatch h))
theorem e115 {d : Nat} {S : mm_S} {a0 : Nat} {x1 : Int32} : mm_cl d 115 [.ref a0, .int x1] S = mm_ex d 115 0 [.ref a0, .int x1, .null] [] S := mm_cl_eq t115 (Nat.le_of_ble_eq_true rfl) rfl
/-! X11_gainByFirst -/
theorem dd116_0 : (decode prog_1_method_45_code 0 = .ok (.aload_n 0, 1)) ∧ (decode prog_1_method_45_code 1 = .ok (.getfield 26, 3)) ∧ (decode prog_1_method_45_code 4 = .ok (.aload_n 0, 1)) ∧ (decode prog_1_method_45_code 5 = .ok (.getfield 17, 3)) ∧ (decode prog_1_method_45_code 8 = .ok (.invokevirtual 184, 3)) ∧ (decode prog_1_method_45_code 11 = .ok (.aload_n 0, 1)) ∧ (decode prog_1_method_45_code 12 = .ok (.getfield 26, 3)) ∧ (decode prog_1_method_45_code 15 = .ok (.iload_n 1, 1)) ∧ (decode prog_1_method_45_code 16 = .ok (.invokevirtual 107, 3)) ∧ (decode prog_1_method_45_code 19 = .ok (.aload_n 0, 1)) ∧ (decode prog_1_method_45_code 20 = .ok (.getfield 26, 3)) ∧ (decode prog_1_method_45_code 23 = .ok (.iload_n 2, 1)) ∧ (decode prog_1_method_45_code 24 = .ok (.invokevirtual 348, 3)) ∧ (decode prog_1_method_45_code 27 = .ok (.aload_n 0, 1)) ∧ (decode prog_1_method_45_code 28 = .ok (.getfield 26, 3)) ∧ (decode prog_1_method_45_code 31 = .ok (.invokevirtual 218, 3)) := by decide +kernel
theorem d116_0 : decode prog_1_method_45_code 0 = .ok (.aload_n 0, 1) := dd116_0.1
theorem d116_1 : decode prog_1_method_45_code 1 = .ok (.getfield 26, 3) := dd116_0.2.1
theorem d116_4 : decode prog_1_method_45_code 4 = .ok (.aload_n 0, 1) := dd116_0.2.2.1
theorem d116_5 : decode prog_1_method_45_code 5 = .ok (.getfield 17, 3) := dd116_0.2.2.2.1
theorem d116_8 : decode prog_1_method_45_code 8 = .ok (.invokevirtual 184, 3) := dd116_0.2.2.2.2.1
theorem d116_11 : decode prog_1_method_45_code 11 = .ok (.aload_n 0, 1) := dd116_0.2.2.2.2.2.1
theorem d116_12 : decode prog_1_method_45_code 12 = .ok (.getfield 26, 3) := dd116_0.2.2.2.2.2.2.1
theorem d116_15 : decode prog_1_method_45_code 15 = .ok (.iload_n 1, 1) := dd116_0.2.2.2.2.2.2.2.1
theorem d116_16 : decode prog_1_method_45_code 16 = .ok (.invokevirtual 107, 3) := dd116_0.2.2.2.2.2.2.2.2.1
theorem d116_19 : decode prog_1_method_45_code 19 = .ok (.aload_n 0, 1) := dd116_0.2.2.2.2.2.2.2.2.2.1
theorem d116_20 : decode prog_1_method_45_code 20 = .ok (.getfield 26, 3) := dd116_0.2.2.2.2.2.2.2.2.2.2.1
theorem d116_23 : decode prog_1_method_45_code 23 = .ok (.iload_n 2, 1) := dd116_0.2.2.2.2.2.2.2.2.2.2.2.1
theorem d116_24 : decode prog_1_method_45_code 24 = .ok (.invokevirtual 348, 3) := dd116_0.2.2.2.2.2.2.2.2.2.2.2.2.1
theorem d116_27 : decode prog_1_method_45_code 27 = .ok (.aload_n 0, 1) := dd116_0.2.2.2.2.2.2.2.2.2.2.2.2.2.1
theorem d116_28 : decode prog_1_method_45_code 28 = .ok (.getfield 26, 3) := dd116_0.2.2.2.2.2.2.2.2.2.2.2.2.2.2.1
theorem d116_31 : decode prog_1_method_45_code 31 = .ok (.invokevirtual 218, 3) := dd116_0.2.2.2.2.2.2.2.2.2.2.2.2.2.2.2
theorem dd116_34 : (decode prog_1_method_45_code 34 = .ok (.iload_n 3, 1)) ∧ (decode prog_1_method_45_code 35 = .ok (.ifCond .ne 15, 3)) ∧ (decode prog_1_method_45_code 38 = .ok (.aload_n 0, 1)) ∧ (decode prog_1_method_45_code 39 = .ok (.getfield 26, 3)) ∧ (decode prog_1_method_45_code 42 = .ok (.getfield 120, 3)) ∧ (decode prog_1_method_45_code 45 = .ok (.iload_n 1, 1)) ∧ (decode prog_1_method_45_code 46 = .ok (.iaload, 1)) ∧ (decode prog_1_method_45_code 47 = .ok (.goto 18, 3)) ∧ (decode prog_1_method_45_code 50 = .ok (.aload_n 0, 1)) ∧ (decode prog_1_method_45_code 51 = .ok (.getfield 26, 3)) ∧ (decode prog_1_method_45_code 54 = .ok (.getfield 171, 3)) ∧ (decode prog_1_method_45_code 57 = .ok (.aload_n 0, 1)) ∧ (decode prog_1_method_45_code 58 = .ok (.getfield 26, 3)) ∧ (decode prog_1_method_45_code 61 = .ok (.invokevirtual 351, 3)) ∧ (decode prog_1_method_45_code 64 = .ok (.iadd, 1)) ∧ (decode prog_1_method_45_code 65 = .ok (.ireturn, 1)) := by decide +kernel
theorem d116_34 : decode prog_1_method_45_code 34 = .ok (.iload_n 3, 1) := dd116_34.1
theorem d116_35 : decode prog_1_method_45_code 35 = .ok (.ifCond .ne 15, 3) := dd116_34.2.1
theorem d116_38 : decode prog_1_method_45_code 38 = .ok (.aload_n 0, 1) := dd116_34.2.2.1
theorem d116_39 : decode prog_1_method_45_code 39 = .ok (.getfield 26, 3) := dd116_34.2.2.2.1
theorem d116_42 : decode prog_1_method_45_code 42 = .ok (.getfield 120, 3) := dd116_34.2.2.2.2.1
theorem d116_45 : decode prog_1_method_45_code 45 = .ok (.iload_n 1, 1) := dd116_34.2.2.2.2.2.1
theorem d116_46 : decode prog_1_method_45_code 46 = .ok (.iaload, 1) := dd116_34.2.2.2.2.2.2.1
theorem d116_47 : decode prog_1_method_45_code 47 = .ok (.goto 18, 3) := dd116_34.2.2.2.2.2.2.2.1
theorem d116_50 : decode prog_1_method_45_code 50 = .ok (.aload_n 0, 1) := dd116_34.2.2.2.2.2.2.2.2.1
theorem d116_51 : decode prog_1_method_45_code 51 = .ok (.getfield 26, 3) := dd116_34.2.2.2.2.2.2.2.2.2.1
theorem d116_54 : decode prog_1_method_45_code 54 = .ok (.getfield 171, 3) := dd116_34.2.2.2.2.2.2.2.2.2.2.1
theorem d116_57 : decode prog_1_method_45_code 57 = .ok (.aload_n 0, 1) := dd116_34.2.2.2.2.2.2.2.2.2.2.2.1
theorem d116_58 : decode prog_1_method_45_code 58 = .ok (.getfield 26, 3) := dd116_34.2.2.2.2.2.2.2.2.2.2.2.2.1
theorem d116_61 : decode prog_1_method_45_code 61 = .ok (.invokevirtual 351, 3) := dd116_34.2.2.2.2.2.2.2.2.2.2.2.2.2.1
theorem d116_64 : decode prog_1_method_45_code 64 = .ok (.iadd, 1) := dd116_34.2.2.2.2.2.2.2.2.2.2.2.2.2.2.1
theorem d116_65 : decode prog_1_method_45_code 65 = .ok (.ireturn, 1) := dd116_34.2.2.2.2.2.2.2.2.2.2.2.2.2.2.2
theorem b116_0 {d : Nat} {S : mm_S} {a0 : Nat} {x1 : Int32} {x2 : Int32} {x3 : Int32} (h0 : mm_obj S a0 11 = true) (h1 : (mm_R S a0 2).isSome = true) (h2 : (mm_R S a0 0).isSome = true) (h3 : mm_rk S (mm_rg S a0 2) = 1) : mm_ex (d + 1) 116 0 [.ref a0, .int x1, .int x2, .int x3] [] S =
    mm_bd (mm_cl d 7 [.ref (mm_rg S a0 2), .ref (mm_rg S a0 0)] S) (fun v S2 => mm_ex (d + 1) 116 11 [.ref a0, .int x1, .int x2, .int x3] (v.toList ++ []) S2) :=
  Eq.trans (mx_aload_n t116 d116_0 (x := a0) rfl) <|
  Eq.trans (mx_getR t116 d116_1 rfl fl11_26 h0 h1) <|
  Eq.trans (mx_aload_n t116 d116_4 (x := a0) rfl) <|
  Eq.trans (mx_getR t116 d116_5 rfl fl11_17 h0 h2) <|
  (mx_virt (st := []) (k := 1) t116 [.ref (mm_rg S a0 0)] d116_8 vt11_184 rfl rfl (Nat.le_of_ble_eq_true rfl) (Nat.le_of_ble_eq_true rfl) h3)
theorem b116_11 {d : Nat} {S : mm_S} {a0 : Nat} {x1 : Int32} {x2 : Int32} {x3 : Int32} (h0 : mm_obj S a0 11 = true) (h1 : (mm_R S a0 2).isSome = true) (h2 : mm_rk S (mm_rg S a0 2) = 1) : mm_ex (d + 1) 116 11 [.ref a0, .int x1, .int x2, .int x3] [] S =
    mm_bd (mm_cl d 19 [.ref (mm_rg S a0 2), .int x1] S) (fun v S2 => mm_ex (d + 1) 116 19 [.ref a0, .int x1, .int x2, .int x3] (v.toList ++ []) S2) :=
  Eq.trans (mx_aload_n t116 d116_11 (x := a0) rfl) <|
  Eq.trans (mx_getR t116 d116_12 rfl fl11_26 h0 h1) <|
  Eq.trans (mx_iload_n t116 d116_15 (x := x1) rfl) <|
  (mx_virt (st := []) (k := 1) t116 [.int x1] d116_16 vt11_107 rfl rfl (Nat.le_of_ble_eq_true rfl) (Nat.le_of_ble_eq_true rfl) h2)
theorem b116_19 {d : Nat} {S : mm_S} {a0 : Nat} {x1 : Int32} {x2 : Int32} {x3 : Int32} (h0 : mm_obj S a0 11 = true) (h1 : (mm_R S a0 2).isSome = true) (h2 : mm_rk S (mm_rg S a0 2) = 1) : mm_ex (d + 1) 116 19 [.ref a0, .int x1, .int x2, .int x3] [] S =
    mm_bd (mm_cl d 22 [.ref (mm_rg S a0 2), .int x2] S) (fun v S2 => mm_ex (d + 1) 116 27 [.ref a0, .int x1, .int x2, .int x3] (v.toList ++ []) S2) :=
  Eq.trans (mx_aload_n t116 d116_19 (x := a0) rfl) <|
  Eq.trans (mx_getR t116 d116_20 rfl fl11_26 h0 h1) <|
  Eq.trans (mx_iload_n t116 d116_23 (x := x2) rfl) <|
  (mx_virt (st := []) (k := 1) t116 [.int x2] d116_24 vt11_348 rfl rfl (Nat.le_of_ble_eq_true rfl) (Nat.le_of_ble_eq_true rfl) h2)
theorem b116_27 {d : Nat} {S : mm_S} {a0 : Nat} {x1 : Int32} {x2 : Int32} {x3 : Int32} (h0 : mm_obj S a0 11 = true) (h1 : (mm_R S a0 2).isSome = true) (h2 : mm_rk S (mm_rg S a0 2) = 1) : mm_ex (d + 1) 116 27 [.ref a0, .int x1, .int x2, .int x3] [] S =
    mm_bd (mm_cl d 23 [.ref (mm_rg S a0 2)] S) (fun v S2 => mm_ex (d + 1) 116 34 [.ref a0, .int x1, .int x2, .int x3] (v.toList ++ []) S2) :=
  Eq.trans (mx_aload_n t116 d116_27 (x := a0) rfl) <|
  Eq.trans (mx_getR t116 d116_28 rfl fl11_26 h0 h1) <|
  (mx_virt (st := []) (k := 1) t116 [] d116_31 vt11_218 rfl rfl (Nat.le_of_ble_eq_true rfl) (Nat.le_of_ble_eq_true rfl) h2)
theorem b116_34 {d : Nat} {S : mm_S} {a0 : Nat} {x1 : Int32} {x2 : Int32} {x3 : Int32} : mm_ex d 116 34 [.ref a0, .int x1, .int x2, .int x3] [] S =
    if x3 = nI 0 then mm_ex d 116 38 [.ref a0, .int x1, .int x2, .int x3] [] S else mm_ex d 116 50 [.ref a0, .int x1, .int x2, .int x3] [] S :=
  Eq.trans (mx_iload_n t116 d116_34 (x := x3) rfl) <|
  (mx_ine t116 d116_35 (tgt := 50) (by decide))
theorem b116_38 {d : Nat} {S : mm_S} {a0 : Nat} {x1 : Int32} {x2 : Int32} {x3 : Int32} (h0 : mm_obj S a0 11 = true) (h1 : (mm_R S a0 2).isSome = true) (h2 : mm_obj S (mm_rg S a0 2) 1 = true) (h3 : (mm_R S (mm_rg S a0 2) 4).isSome = true) (h4 : mm_inb x1 (mm_N S (mm_rg S (mm_rg S a0 2) 4)) = true) (h5 : mm_arr S (mm_rg S (mm_rg S a0 2) 4) 13 = true) : mm_ex d 116 38 [.ref a0, .int x1, .int x2, .int x3] [] S =
    some (some (.int (mm_M S (mm_rg S (mm_rg S a0 2) 4) (x1).toNatClampNeg)), S) :=
  Eq.trans (mx_aload_n t116 d116_38 (x := a0) rfl) <|
  Eq.trans (mx_getR t116 d116_39 rfl fl11_26 h0 h1) <|
  Eq.trans (mx_getR t116 d116_42 rfl fl11_120 h2 h3) <|
  Eq.trans (mx_iload_n t116 d116_45 (x := x1) rfl) <|
  Eq.trans (mx_iald t116 d116_46 h5 h4) <|
  Eq.trans (mx_goto t116 d116_47 (tgt := 65) (by decide)) <|
  (mx_iret t116 d116_65 (ty := .int) rfl rfl (fun h => nomatch h))
theorem b116_50 {d : Nat} {S : mm_S} {a0 : Nat} {x1 : Int32} {x2 : Int32} {x3 : Int32} (h0 : mm_obj S a0 11 = true) (h1 : (mm_R S a0 2).isSome = true) (h2 : mm_obj S (mm_rg S a0 2) 1 = true) (h3 : mm_rk S (mm_rg S a0 2) = 1) : mm_ex (d + 1) 116 50 [.ref a0, .int x1, .int x2, .int x3] [] S =
    mm_bd (mm_cl d 24 [.ref (mm_rg S a0 2)] S) (fun v S2 => mm_ex (d + 1) 116 64 [.ref a0, .int x1, .int x2, .int x3] (v.toList ++ [.int (mm_M S (mm_rg S a0 2) 14)]) S2) :=
  Eq.trans (mx_aload_n t116 d116_50 (x := a0) rfl) <|
  Eq.trans (mx_getR t116 d116_51 rfl fl11_26 h0 h1) <|
  Eq.trans (mx_geti t116 d116_54 rfl fl11_171 h2) <|
  Eq.trans (mx_aload_n t116 d116_57 (x := a0) rfl) <|
  Eq.trans (mx_getR t116 d116_58 rfl fl11_26 h0 h1) <|
  (mx_virt (st := [.int (mm_M S (mm_rg S a0 2) 14)]) (k := 1) t116 [] d116_61 vt11_351 rfl rfl (Nat.le_of_ble_eq_true rfl) (Nat.le_of_ble_eq_true rfl) h3)
theorem b116_64 {d : Nat} {S : mm_S} {a0 : Nat} {x1 : Int32} {x2 : Int32} {x3 : Int32} {p0 : Int32} {p1 : Int32} : mm_ex d 116 64 [.ref a0, .int x1, .int x2, .int x3] [.int p0, .int p1] S =
    some (some (.int (p1 + p0)), S) :=
  Eq.trans (mx_iadd t116 d116_64) <|
  (mx_iret t116 d116_65 (ty := .int) rfl rfl (fun h => nomatch h))
theorem e116 {d : Nat} {S : mm_S} {a0 : Nat} {x1 : Int32} {x2 : Int32} {x3 : Int32} : mm_cl d 116 [.ref a0, .int x1, .int x2, .int x3] S = mm_ex d 116 0 [.ref a0, .int x1, .int x2, .int x3] [] S := mm_cl_eq t116 (Nat.le_of_ble_eq_true rfl) rfl
/-! X11_bothLikeSwap -/
theorem dd117_0 : (decode prog_1_method_46_code 0 = .ok (.aload_n 0, 1)) ∧ (decode prog_1_method_46_code 1 = .ok (.getfield 17, 3)) ∧ (decode prog_1_method_46_code 4 = .ok (.getfield 242, 3)) ∧ (decode prog_1_method_46_code 7 = .ok (.iload_n 1, 1)) ∧ (decode prog_1_method_46_code 8 = .ok (.iaload, 1)) ∧ (decode prog_1_method_46_code 9 = .ok (.istore_n 2, 1)) ∧ (decode prog_1_method_46_code 10 = .ok (.aload_n 0, 1)) ∧ (decode prog_1_method_46_code 11 = .ok (.getfield 17, 3)) ∧ (decode prog_1_method_46_code 14 = .ok (.getfield 242, 3)) ∧ (decode prog_1_method_46_code 17 = .ok (.iload_n 1, 1)) ∧ (decode prog_1_method_46_code 18 = .ok (.iconst 1, 1)) ∧ (decode prog_1_method_46_code 19 = .ok (.iadd, 1)) ∧ (decode prog_1_method_46_code 20 = .ok (.iaload, 1)) ∧ (decode prog_1_method_46_code 21 = .ok (.istore_n 3, 1)) ∧ (decode prog_1_method_46_code 22 = .ok (.aload_n 0, 1)) ∧ (decode prog_1_method_46_code 23 = .ok (.getfield 26, 3)) := by decide +kernel
theorem d117_0 : decode prog_1_method_46_code 0 = .ok (.aload_n 0, 1) := dd117_0.1
theorem d117_1 : decode prog_1_method_46_code 1 = .ok (.getfield 17, 3) := dd117_0.2.1
theorem d117_4 : decode prog_1_method_46_code 4 = .ok (.getfield 242, 3) := dd117_0.2.2.1
theorem d117_7 : decode prog_1_method_46_code 7 = .ok (.iload_n 1, 1) := dd117_0.2.2.2.1
theorem d117_8 : decode prog_1_method_46_code 8 = .ok (.iaload, 1) := dd117_0.2.2.2.2.1
theorem d117_9 : decode prog_1_method_46_code 9 = .ok (.istore_n 2, 1) := dd117_0.2.2.2.2.2.1
theorem d117_10 : decode prog_1_method_46_code 10 = .ok (.aload_n 0, 1) := dd117_0.2.2.2.2.2.2.1
theorem d117_11 : decode prog_1_method_46_code 11 = .ok (.getfield 17, 3) := dd117_0.2.2.2.2.2.2.2.1
theorem d117_14 : decode prog_1_method_46_code 14 = .ok (.getfield 242, 3) := dd117_0.2.2.2.2.2.2.2.2.1
theorem d117_17 : decode prog_1_method_46_code 17 = .ok (.iload_n 1, 1) := dd117_0.2.2.2.2.2.2.2.2.2.1
theorem d117_18 : decode prog_1_method_46_code 18 = .ok (.iconst 1, 1) := dd117_0.2.2.2.2.2.2.2.2.2.2.1
theorem d117_19 : decode prog_1_method_46_code 19 = .ok (.iadd, 1) := dd117_0.2.2.2.2.2.2.2.2.2.2.2.1
theorem d117_20 : decode prog_1_method_46_code 20 = .ok (.iaload, 1) := dd117_0.2.2.2.2.2.2.2.2.2.2.2.2.1
theorem d117_21 : decode prog_1_method_46_code 21 = .ok (.istore_n 3, 1) := dd117_0.2.2.2.2.2.2.2.2.2.2.2.2.2.1
theorem d117_22 : decode prog_1_method_46_code 22 = .ok (.aload_n 0, 1) := dd117_0.2.2.2.2.2.2.2.2.2.2.2.2.2.2.1
theorem d117_23 : decode prog_1_method_46_code 23 = .ok (.getfield 26, 3) := dd117_0.2.2.2.2.2.2.2.2.2.2.2.2.2.2.2
theorem dd117_26 : (decode prog_1_method_46_code 26 = .ok (.aload_n 0, 1)) ∧ (decode prog_1_method_46_code 27 = .ok (.getfield 17, 3)) ∧ (decode prog_1_method_46_code 30 = .ok (.invokevirtual 184, 3)) ∧ (decode prog_1_method_46_code 33 = .ok (.aload_n 0, 1)) ∧ (decode prog_1_method_46_code 34 = .ok (.getfield 26, 3)) ∧ (decode prog_1_method_46_code 37 = .ok (.getfield 242, 3)) ∧ (decode prog_1_method_46_code 40 = .ok (.iload_n 1, 1)) ∧ (decode prog_1_method_46_code 41 = .ok (.iload_n 3, 1)) ∧ (decode prog_1_method_46_code 42 = .ok (.iastore, 1)) ∧ (decode prog_1_method_46_code 43 = .ok (.aload_n 0, 1)) ∧ (decode prog_1_method_46_code 44 = .ok (.getfield 26, 3)) ∧ (decode prog_1_method_46_code 47 = .ok (.getfield 242, 3)) ∧ (decode prog_1_method_46_code 50 = .ok (.iload_n 1, 1)) ∧ (decode prog_1_method_46_code 51 = .ok (.iconst 1, 1)) ∧ (decode prog_1_method_46_code 52 = .ok (.iadd, 1)) ∧ (decode prog_1_method_46_code 53 = .ok (.iload_n 2, 1)) := by decide +kernel
theorem d117_26 : decode prog_1_method_46_code 26 = .ok (.aload_n 0, 1) := dd117_26.1
theorem d117_27 : decode prog_1_method_46_code 27 = .ok (.getfield 17, 3) := dd117_26.2.1
theorem d117_30 : decode prog_1_method_46_code 30 = .ok (.invokevirtual 184, 3) := dd117_26.2.2.1
theorem d117_33 : decode prog_1_method_46_code 33 = .ok (.aload_n 0, 1) := dd117_26.2.2.2.1
theorem d117_34 : decode prog_1_method_46_code 34 = .ok (.getfield 26, 3) := dd117_26.2.2.2.2.1
theorem d117_37 : decode prog_1_method_46_code 37 = .ok (.getfield 242, 3) := dd117_26.2.2.2.2.2.1
theorem d117_40 : decode prog_1_method_46_code 40 = .ok (.iload_n 1, 1) := dd117_26.2.2.2.2.2.2.1
theorem d117_41 : decode prog_1_method_46_code 41 = .ok (.iload_n 3, 1) := dd117_26.2.2.2.2.2.2.2.1
theorem d117_42 : decode prog_1_method_46_code 42 = .ok (.iastore, 1) := dd117_26.2.2.2.2.2.2.2.2.1
theorem d117_43 : decode prog_1_method_46_code 43 = .ok (.aload_n 0, 1) := dd117_26.2.2.2.2.2.2.2.2.2.1
theorem d117_44 : decode prog_1_method_46_code 44 = .ok (.getfield 26, 3) := dd117_26.2.2.2.2.2.2.2.2.2.2.1
theorem d117_47 : decode prog_1_method_46_code 47 = .ok (.getfield 242, 3) := dd117_26.2.2.2.2.2.2.2.2.2.2.2.1
theorem d117_50 : decode prog_1_method_46_code 50 = .ok (.iload_n 1, 1) := dd117_26.2.2.2.2.2.2.2.2.2.2.2.2.1
theorem d117_51 : decode prog_1_method_46_code 51 = .ok (.iconst 1, 1) := dd117_26.2.2.2.2.2.2.2.2.2.2.2.2.2.1
theorem d117_52 : decode prog_1_method_46_code 52 = .ok (.iadd, 1) := dd117_26.2.2.2.2.2.2.2.2.2.2.2.2.2.2.1
theorem d117_53 : decode prog_1_method_46_code 53 = .ok (.iload_n 2, 1) := dd117_26.2.2.2.2.2.2.2.2.2.2.2.2.2.2.2
theorem dd117_54 : (decode prog_1_method_46_code 54 = .ok (.iastore, 1)) ∧ (decode prog_1_method_46_code 55 = .ok (.aload_n 0, 1)) ∧ (decode prog_1_method_46_code 56 = .ok (.getfield 26, 3)) ∧ (decode prog_1_method_46_code 59 = .ok (.invokevirtual 218, 3)) ∧ (decode prog_1_method_46_code 62 = .ok (.aload_n 0, 1)) ∧ (decode prog_1_method_46_code 63 = .ok (.getfield 26, 3)) ∧ (decode prog_1_method_46_code 66 = .ok (.getfield 120, 3)) ∧ (decode prog_1_method_46_code 69 = .ok (.iload_n 2, 1)) ∧ (decode prog_1_method_46_code 70 = .ok (.iaload, 1)) ∧ (decode prog_1_method_46_code 71 = .ok (.aload_n 0, 1)) ∧ (decode prog_1_method_46_code 72 = .ok (.getfield 29, 3)) ∧ (decode prog_1_method_46_code 75 = .ok (.getfield 120, 3)) ∧ (decode prog_1_method_46_code 78 = .ok (.iload_n 2, 1)) ∧ (decode prog_1_method_46_code 79 = .ok (.iaload, 1)) ∧ (decode prog_1_method_46_code 80 = .ok (.isub, 1)) ∧ (decode prog_1_method_46_code 81 = .ok (.istore 4, 2)) := by decide +kernel
theorem d117_54 : decode prog_1_method_46_code 54 = .ok (.iastore, 1) := dd117_54.1
theorem d117_55 : decode prog_1_method_46_code 55 = .ok (.aload_n 0, 1) := dd117_54.2.1
theorem d117_56 : decode prog_1_method_46_code 56 = .ok (.getfield 26, 3) := dd117_54.2.2.1
theorem d117_59 : decode prog_1_method_46_code 59 = .ok (.invokevirtual 218, 3) := dd117_54.2.2.2.1
theorem d117_62 : decode prog_1_method_46_code 62 = .ok (.aload_n 0, 1) := dd117_54.2.2.2.2.1
theorem d117_63 : decode prog_1_method_46_code 63 = .ok (.getfield 26, 3) := dd117_54.2.2.2.2.2.1
theorem d117_66 : decode prog_1_method_46_code 66 = .ok (.getfield 120, 3) := dd117_54.2.2.2.2.2.2.1
theorem d117_69 : decode prog_1_method_46_code 69 = .ok (.iload_n 2, 1) := dd117_54.2.2.2.2.2.2.2.1
theorem d117_70 : decode prog_1_method_46_code 70 = .ok (.iaload, 1) := dd117_54.2.2.2.2.2.2.2.2.1
theorem d117_71 : decode prog_1_method_46_code 71 = .ok (.aload_n 0, 1) := dd117_54.2.2.2.2.2.2.2.2.2.1
theorem d117_72 : decode prog_1_method_46_code 72 = .ok (.getfield 29, 3) := dd117_54.2.2.2.2.2.2.2.2.2.2.1
theorem d117_75 : decode prog_1_method_46_code 75 = .ok (.getfield 120, 3) := dd117_54.2.2.2.2.2.2.2.2.2.2.2.1
theorem d117_78 : decode prog_1_method_46_code 78 = .ok (.iload_n 2, 1) := dd117_54.2.2.2.2.2.2.2.2.2.2.2.2.1
theorem d117_79 : decode prog_1_method_46_code 79 = .ok (.iaload, 1) := dd117_54.2.2.2.2.2.2.2.2.2.2.2.2.2.1
theorem d117_80 : decode prog_1_method_46_code 80 = .ok (.isub, 1) := dd117_54.2.2.2.2.2.2.2.2.2.2.2.2.2.2.1
theorem d117_81 : decode prog_1_method_46_code 81 = .ok (.istore 4, 2) := dd117_54.2.2.2.2.2.2.2.2.2.2.2.2.2.2.2
theorem dd117_83 : (decode prog_1_method_46_code 83 = .ok (.aload_n 0, 1)) ∧ (decode prog_1_method_46_code 84 = .ok (.getfield 26, 3)) ∧ (decode prog_1_method_46_code 87 = .ok (.getfield 120, 3)) ∧ (decode prog_1_method_46_code 90 = .ok (.iload_n 3, 1)) ∧ (decode prog_1_method_46_code 91 = .ok (.iaload, 1)) ∧ (decode prog_1_method_46_code 92 = .ok (.aload_n 0, 1)) ∧ (decode prog_1_method_46_code 93 = .ok (.getfield 29, 3)) ∧ (decode prog_1_method_46_code 96 = .ok (.getfield 120, 3)) ∧ (decode prog_1_method_46_code 99 = .ok (.iload_n 3, 1)) ∧ (decode prog_1_method_46_code 100 = .ok (.iaload, 1)) ∧ (decode prog_1_method_46_code 101 = .ok (.isub, 1)) ∧ (decode prog_1_method_46_code 102 = .ok (.istore 5, 2)) ∧ (decode prog_1_method_46_code 104 = .ok (.iload 4, 2)) ∧ (decode prog_1_method_46_code 106 = .ok (.ifCond .lt 22, 3)) ∧ (decode prog_1_method_46_code 109 = .ok (.iload 5, 2)) ∧ (decode prog_1_method_46_code 111 = .ok (.ifCond .lt 17, 3)) := by decide +kernel
theorem d117_83 : decode prog_1_method_46_code 83 = .ok (.aload_n 0, 1) := dd117_83.1
theorem d117_84 : decode prog_1_method_46_code 84 = .ok (.getfield 26, 3) := dd117_83.2.1
theorem d117_87 : decode prog_1_method_46_code 87 = .ok (.getfield 120, 3) := dd117_83.2.2.1
theorem d117_90 : decode prog_1_method_46_code 90 = .ok (.iload_n 3, 1) := dd117_83.2.2.2.1
theorem d117_91 : decode prog_1_method_46_code 91 = .ok (.iaload, 1) := dd117_83.2.2.2.2.1
theorem d117_92 : decode prog_1_method_46_code 92 = .ok (.aload_n 0, 1) := dd117_83.2.2.2.2.2.1
theorem d117_93 : decode prog_1_method_46_code 93 = .ok (.getfield 29, 3) := dd117_83.2.2.2.2.2.2.1
theorem d117_96 : decode prog_1_method_46_code 96 = .ok (.getfield 120, 3) := dd117_83.2.2.2.2.2.2.2.1
theorem d117_99 : decode prog_1_method_46_code 99 = .ok (.iload_n 3, 1) := dd117_83.2.2.2.2.2.2.2.2.1
theorem d117_100 : decode prog_1_method_46_code 100 = .ok (.iaload, 1) := dd117_83.2.2.2.2.2.2.2.2.2.1
theorem d117_101 : decode prog_1_method_46_code 101 = .ok (.isub, 1) := dd117_83.2.2.2.2.2.2.2.2.2.2.1
theorem d117_102 : decode prog_1_method_46_code 102 = .ok (.istore 5, 2) := dd117_83.2.2.2.2.2.2.2.2.2.2.2.1
theorem d117_104 : decode prog_1_method_46_code 104 = .ok (.iload 4, 2) := dd117_83.2.2.2.2.2.2.2.2.2.2.2.2.1
theorem d117_106 : decode prog_1_method_46_code 106 = .ok (.ifCond .lt 22, 3) := dd117_83.2.2.2.2.2.2.2.2.2.2.2.2.2.1
theorem d117_109 : decode prog_1_method_46_code 109 = .ok (.iload 5, 2) := dd117_83.2.2.2.2.2.2.2.2.2.2.2.2.2.2.1
theorem d117_111 : decode prog_1_method_46_code 111 = .ok (.ifCond .lt 17, 3) := dd117_83.2.2.2.2.2.2.2.2.2.2.2.2.2.2.2
theorem dd117_114 : (decode prog_1_method_46_code 114 = .ok (.iload 4, 2)) ∧ (decode prog_1_method_46_code 116 = .ok (.ifCond .gt 8, 3)) ∧ (decode prog_1_method_46_code 119 = .ok (.iload 5, 2)) ∧ (decode prog_1_method_46_code 121 = .ok (.ifCond .le 7, 3)) ∧ (decode prog_1_method_46_code 124 = .ok (.iconst 1, 1)) ∧ (decode prog_1_method_46_code 125 = .ok (.goto 4, 3)) ∧ (decode prog_1_method_46_code 128 = .ok (.iconst 0, 1)) ∧ (decode prog_1_method_46_code 129 = .ok (.ireturn, 1)) := by decide +kernel
theorem d117_114 : decode prog_1_method_46_code 114 = .ok (.iload 4, 2) := dd117_114.1
theorem d117_116 : decode prog_1_method_46_code 116 = .ok (.ifCond .gt 8, 3) := dd117_114.2.1
theorem d117_119 : decode prog_1_method_46_code 119 = .ok (.iload 5, 2) := dd117_114.2.2.1
theorem d117_121 : decode prog_1_method_46_code 121 = .ok (.ifCond .le 7, 3) := dd117_114.2.2.2.1
theorem d117_124 : decode prog_1_method_46_code 124 = .ok (.iconst 1, 1) := dd117_114.2.2.2.2.1
theorem d117_125 : decode prog_1_method_46_code 125 = .ok (.goto 4, 3) := dd117_114.2.2.2.2.2.1
theorem d117_128 : decode prog_1_method_46_code 128 = .ok (.iconst 0, 1) := dd117_114.2.2.2.2.2.2.1
theorem d117_129 : decode prog_1_method_46_code 129 = .ok (.ireturn, 1) := dd117_114.2.2.2.2.2.2.2
theorem b117_0 {d : Nat} {S : mm_S} {a0 : Nat} {x1 : Int32} (h0 : mm_obj S a0 11 = true) (h1 : (mm_R S a0 0).isSome = true) (h2 : mm_obj S (mm_rg S a0 0) 1 = true) (h3 : (mm_R S (mm_rg S a0 0) 5).isSome = true) (h4 : mm_inb x1 (mm_N S (mm_rg S (mm_rg S a0 0) 5)) = true) (h5 : mm_arr S (mm_rg S (mm_rg S a0 0) 5) 13 = true) (h6 : mm_inb (x1 + (nI 1)) (mm_N S (mm_rg S (mm_rg S a0 0) 5)) = true) (h7 : (mm_R S a0 2).isSome = true) (h8 : mm_rk S (mm_rg S a0 2) = 1) : mm_ex (d + 1) 117 0 [.ref a0, .int x1, .null, .null, .null, .null] [] S =
    mm_bd (mm_cl d 7 [.ref (mm_rg S a0 2), .ref (mm_rg S a0 0)] S) (fun v S2 => mm_ex (d + 1) 117 33 [.ref a0, .int x1, .int (mm_M S (mm_rg S (mm_rg S a0 0) 5) (x1).toNatClampNeg), .int (mm_M S (mm_rg S (mm_rg S a0 0) 5) (x1 + (nI 1)).toNatClampNeg), .null, .null] (v.toList ++ []) S2) :=
  Eq.trans (mx_aload_n t117 d117_0 (x := a0) rfl) <|
  Eq.trans (mx_getR t117 d117_1 rfl fl11_17 h0 h1) <|
  Eq.trans (mx_getR t117 d117_4 rfl fl11_242 h2 h3) <|
  Eq.trans (mx_iload_n t117 d117_7 (x := x1) rfl) <|
  Eq.trans (mx_iald t117 d117_8 h5 h4) <|
  Eq.trans (mx_istore_n t117 d117_9 (ls' := [.ref a0, .int x1, .int (mm_M S (mm_rg S (mm_rg S a0 0) 5) (x1).toNatClampNeg), .null, .null, .null]) rfl rfl) <|
  Eq.trans (mx_aload_n t117 d117_10 (x := a0) rfl) <|
  Eq.trans (mx_getR t117 d117_11 rfl fl11_17 h0 h1) <|
  Eq.trans (mx_getR t117 d117_14 rfl fl11_242 h2 h3) <|
  Eq.trans (mx_iload_n t117 d117_17 (x := x1) rfl) <|
  Eq.trans (mx_iconst t117 d117_18 (v := nI 1) rfl) <|
  Eq.trans (mx_iadd t117 d117_19) <|
  Eq.trans (mx_iald t117 d117_20 h5 h6) <|
  Eq.trans (mx_istore_n t117 d117_21 (ls' := [.ref a0, .int x1, .int (mm_M S (mm_rg S (mm_rg S a0 0) 5) (x1).toNatClampNeg), .int (mm_M S (mm_rg S (mm_rg S a0 0) 5) (x1 + (nI 1)).toNatClampNeg), .null, .null]) rfl rfl) <|
  Eq.trans (mx_aload_n t117 d117_22 (x := a0) rfl) <|
  Eq.trans (mx_getR t117 d117_23 rfl fl11_26 h0 h7) <|
  Eq.trans (mx_aload_n t117 d117_26 (x := a0) rfl) <|
  Eq.trans (mx_getR t117 d117_27 rfl fl11_17 h0 h1) <|
  (mx_virt (st := []) (k := 1) t117 [.ref (mm_rg S a0 0)] d117_30 vt11_184 rfl rfl (Nat.le_of_ble_eq_true rfl) (Nat.le_of_ble_eq_true rfl) h8)
theorem b117_33 {d : Nat} {S : mm_S} {a0 : Nat} {x1 : Int32} {x2 : Int32} {x3 : Int32} (h0 : mm_obj S a0 11 = true) (h1 : (mm_R S a0 2).isSome = true) (h2 : mm_obj S (mm_rg S a0 2) 1 = true) (h3 : (mm_R S (mm_rg S a0 2) 5).isSome = true) (h4 : mm_arr S (mm_rg S (mm_rg S a0 2) 5) 13 = true) (h5 : mm_inb x1 (mm_N S (mm_rg S (mm_rg S a0 2) 5)) = true) (h6 : mm_inb (x1 + (nI 1)) (mm_N S (mm_rg S (mm_rg S a0 2) 5)) = true) (h7 : mm_rk S (mm_rg S a0 2) = 1) : mm_ex (d + 1) 117 33 [.ref a0, .int x1, .int x2, .int x3, .null, .null] [] S =
    mm_bd (mm_cl d 23 [.ref (mm_rg S a0 2)] (mm_uM (mm_uM S (mm_rg S (mm_rg S a0 2) 5) (x1).toNatClampNeg x3) (mm_rg S (mm_rg S a0 2) 5) (x1 + (nI 1)).toNatClampNeg x2)) (fun v S2 => mm_ex (d + 1) 117 62 [.ref a0, .int x1, .int x2, .int x3, .null, .null] (v.toList ++ []) S2) :=
  Eq.trans (mx_aload_n t117 d117_33 (x := a0) rfl) <|
  Eq.trans (mx_getR t117 d117_34 rfl fl11_26 h0 h1) <|
  Eq.trans (mx_getR t117 d117_37 rfl fl11_242 h2 h3) <|
  Eq.trans (mx_iload_n t117 d117_40 (x := x1) rfl) <|
  Eq.trans (mx_iload_n t117 d117_41 (x := x3) rfl) <|
  Eq.trans (mx_iast2 t117 d117_42 h4 h5) <|
  Eq.trans (mx_aload_n t117 d117_43 (x := a0) rfl) <|
  Eq.trans (mx_getR t117 d117_44 rfl fl11_26 h0 h1) <|
  Eq.trans (mx_getR t117 d117_47 rfl fl11_242 h2 h3) <|
  Eq.trans (mx_iload_n t117 d117_50 (x := x1) rfl) <|
  Eq.trans (mx_iconst t117 d117_51 (v := nI 1) rfl) <|
  Eq.trans (mx_iadd t117 d117_52) <|
  Eq.trans (mx_iload_n t117 d117_53 (x := x2) rfl) <|
  Eq.trans (mx_iast2 t117 d117_54 h4 h6) <|
  Eq.trans (mx_aload_n t117 d117_55 (x := a0) rfl) <|
  Eq.trans (mx_getR t117 d117_56 rfl fl11_26 h0 h1) <|
  (mx_virt (st := []) (k := 1) t117 [] d117_59 vt11_218 rfl rfl (Nat.le_of_ble_eq_true rfl) (Nat.le_of_ble_eq_true rfl) h7)
theorem b117_62 {d : Nat} {S : mm_S} {a0 : Nat} {x1 : Int32} {x2 : Int32} {x3 : Int32} (h0 : mm_obj S a0 11 = true) (h1 : (mm_R S a0 2).isSome = true) (h2 : mm_obj S (mm_rg S a0 2) 1 = true) (h3 : (mm_R S (mm_rg S a0 2) 4).isSome = true) (h4 : mm_inb x2 (mm_N S (mm_rg S (mm_rg S a0 2) 4)) = true) (h5 : mm_arr S (mm_rg S (mm_rg S a0 2) 4) 13 = true) (h6 : (mm_R S a0 3).isSome = true) (h7 : mm_obj S (mm_rg S a0 3) 1 = true) (h8 : (mm_R S (mm_rg S a0 3) 4).isSome = true) (h9 : mm_inb x2 (mm_N S (mm_rg S (mm_rg S a0 3) 4)) = true) (h10 : mm_arr S (mm_rg S (mm_rg S a0 3) 4) 13 = true) (h11 : mm_inb x3 (mm_N S (mm_rg S (mm_rg S a0 2) 4)) = true) (h12 : mm_inb x3 (mm_N S (mm_rg S (mm_rg S a0 3) 4)) = true) : mm_ex d 117 62 [.ref a0, .int x1, .int x2, .int x3, .null, .null] [] S =
    if ((mm_M S (mm_rg S (mm_rg S a0 2) 4) (x2).toNatClampNeg) - (mm_M S (mm_rg S (mm_rg S a0 3) 4) (x2).toNatClampNeg)) < nI 0 then mm_ex d 117 128 [.ref a0, .int x1, .int x2, .int x3, .int ((mm_M S (mm_rg S (mm_rg S a0 2) 4) (x2).toNatClampNeg) - (mm_M S (mm_rg S (mm_rg S a0 3) 4) (x2).toNatClampNeg)), .int ((mm_M S (mm_rg S (mm_rg S a0 2) 4) (x3).toNatClampNeg) - (mm_M S (mm_rg S (mm_rg S a0 3) 4) (x3).toNatClampNeg))] [] S else mm_ex d 117 109 [.ref a0, .int x1, .int x2, .int x3, .int ((mm_M S (mm_rg S (mm_rg S a0 2) 4) (x2).toNatClampNeg) - (mm_M S (mm_rg S (mm_rg S a0 3) 4) (x2).toNatClampNeg)), .int ((mm_M S (mm_rg S (mm_rg S a0 2) 4) (x3).toNatClampNeg) - (mm_M S (mm_rg S (mm_rg S a0 3) 4) (x3).toNatClampNeg))] [] S :=
  Eq.trans (mx_aload_n t117 d117_62 (x := a0) rfl) <|
  Eq.trans (mx_getR t117 d117_63 rfl fl11_26 h0 h1) <|
  Eq.trans (mx_getR t117 d117_66 rfl fl11_120 h2 h3) <|
  Eq.trans (mx_iload_n t117 d117_69 (x := x2) rfl) <|
  Eq.trans (mx_iald t117 d117_70 h5 h4) <|
  Eq.trans (mx_aload_n t117 d117_71 (x := a0) rfl) <|
  Eq.trans (mx_getR t117 d117_72 rfl fl11_29 h0 h6) <|
  Eq.trans (mx_getR t117 d117_75 rfl fl11_120 h7 h8) <|
  Eq.trans (mx_iload_n t117 d117_78 (x := x2) rfl) <|
  Eq.trans (mx_iald t117 d117_79 h10 h9) <|
  Eq.trans (mx_isub t117 d117_80) <|
  Eq.trans (mx_istore t117 d117_81 (ls' := [.ref a0, .int x1, .int x2, .int x3, .int ((mm_M S (mm_rg S (mm_rg S a0 2) 4) (x2).toNatClampNeg) - (mm_M S (mm_rg S (mm_rg S a0 3) 4) (x2).toNatClampNeg)), .null]) rfl rfl) <|
  Eq.trans (mx_aload_n t117 d117_83 (x := a0) rfl) <|
  Eq.trans (mx_getR t117 d117_84 rfl fl11_26 h0 h1) <|
  Eq.trans (mx_getR t117 d117_87 rfl fl11_120 h2 h3) <|
  Eq.trans (mx_iload_n t117 d117_90 (x := x3) rfl) <|
  Eq.trans (mx_iald t117 d117_91 h5 h11) <|
  Eq.trans (mx_aload_n t117 d117_92 (x := a0) rfl) <|
  Eq.trans (mx_getR t117 d117_93 rfl fl11_29 h0 h6) <|
  Eq.trans (mx_getR t117 d117_96 rfl fl11_120 h7 h8) <|
  Eq.trans (mx_iload_n t117 d117_99 (x := x3) rfl) <|
  Eq.trans (mx_iald t117 d117_100 h10 h12) <|
  Eq.trans (mx_isub t117 d117_101) <|
  Eq.trans (mx_istore t117 d117_102 (ls' := [.ref a0, .int x1, .int x2, .int x3, .int ((mm_M S (mm_rg S (mm_rg S a0 2) 4) (x2).toNatClampNeg) - (mm_M S (mm_rg S (mm_rg S a0 3) 4) (x2).toNatClampNeg)), .int ((mm_M S (mm_rg S (mm_rg S a0 2) 4) (x3).toNatClampNeg) - (mm_M S (mm_rg S (mm_rg S a0 3) 4) (x3).toNatClampNeg))]) rfl rfl) <|
  Eq.trans (mx_iload t117 d117_104 (x := (mm_M S (mm_rg S (mm_rg S a0 2) 4) (x2).toNatClampNeg) - (mm_M S (mm_rg S (mm_rg S a0 3) 4) (x2).toNatClampNeg)) rfl) <|
  (mx_ilt t117 d117_106 (tgt := 128) (by decide))
theorem b117_109 {d : Nat} {S : mm_S} {a0 : Nat} {x1 : Int32} {x2 : Int32} {x3 : Int32} {x4 : Int32} {x5 : Int32} : mm_ex d 117 109 [.ref a0, .int x1, .int x2, .int x3, .int x4, .int x5] [] S =
    if x5 < nI 0 then mm_ex d 117 128 [.ref a0, .int x1, .int x2, .int x3, .int x4, .int x5] [] S else mm_ex d 117 114 [.ref a0, .int x1, .int x2, .int x3, .int x4, .int x5] [] S :=
  Eq.trans (mx_iload t117 d117_109 (x := x5) rfl) <|
  (mx_ilt t117 d117_111 (tgt := 128) (by decide))
theorem b117_114 {d : Nat} {S : mm_S} {a0 : Nat} {x1 : Int32} {x2 : Int32} {x3 : Int32} {x4 : Int32} {x5 : Int32} : mm_ex d 117 114 [.ref a0, .int x1, .int x2, .int x3, .int x4, .int x5] [] S =
    if nI 0 < x4 then mm_ex d 117 124 [.ref a0, .int x1, .int x2, .int x3, .int x4, .int x5] [] S else mm_ex d 117 119 [.ref a0, .int x1, .int x2, .int x3, .int x4, .int x5] [] S :=
  Eq.trans (mx_iload t117 d117_114 (x := x4) rfl) <|
  (mx_igt t117 d117_116 (tgt := 124) (by decide))
theorem b117_119 {d : Nat} {S : mm_S} {a0 : Nat} {x1 : Int32} {x2 : Int32} {x3 : Int32} {x4 : Int32} {x5 : Int32} : mm_ex d 117 119 [.ref a0, .int x1, .int x2, .int x3, .int x4, .int x5] [] S =
    if x5 ≤ nI 0 then mm_ex d 117 128 [.ref a0, .int x1, .int x2, .int x3, .int x4, .int x5] [] S else mm_ex d 117 124 [.ref a0, .int x1, .int x2, .int x3, .int x4, .int x5] [] S :=
  Eq.trans (mx_iload t117 d117_119 (x := x5) rfl) <|
  (mx_ile t117 d117_121 (tgt := 128) (by decide))
theorem b117_124 {d : Nat} {S : mm_S} {a0 : Nat} {x1 : Int32} {x2 : Int32} {x3 : Int32} {x4 : Int32} {x5 : Int32} : mm_ex d 117 124 [.ref a0, .int x1, .int x2, .int x3, .int x4, .int x5] [] S =
    some (some (.int (nI 1)), S) :=
  Eq.trans (mx_iconst t117 d117_124 (v := nI 1) rfl) <|
  Eq.trans (mx_goto t117 d117_125 (tgt := 129) (by decide)) <|
  (mx_iret t117 d117_129 (ty := .boolean) rfl rfl (fun h => nomatch h))
theorem b117_128 {d : Nat} {S : mm_S} {a0 : Nat} {x1 : Int32} {x2 : Int32} {x3 : Int32} {x4 : Int32} {x5 : Int32} : mm_ex d 117 128 [.ref a0, .int x1, .int x2, .int x3, .int x4, .int x5] [] S =
    some (some (.int (nI 0)), S) :=
  Eq.trans (mx_iconst t117 d117_128 (v := nI 0) rfl) <|
  (mx_iret t117 d117_129 (ty := .boolean) rfl rfl (fun h => nomatch h))
theorem e117 {d : Nat} {S : mm_S} {a0 : Nat} {x1 : Int32} : mm_cl d 117 [.ref a0, .int x1] S = mm_ex d 117 0 [.ref a0, .int x1, .null, .null, .null, .null] [] S := mm_cl_eq t117 (Nat.le_of_ble_eq_true rfl) rfl
/-! X11_takersAt -/
theorem d118_0 : decode prog_1_method_47_code 0 = .ok (.iconst 0, 1) := by decide +kernel
theorem d118_1 : decode prog_1_method_47_code 1 = .ok (.istore_n 2, 1) := by decide +kernel
theorem d118_2 : decode prog_1_method_47_code 2 = .ok (.iconst 0, 1) := by decide +kernel
theorem d118_3 : decode prog_1_method_47_code 3 = .ok (.istore_n 3, 1) := by decide +kernel
theorem d118_4 : decode prog_1_method_47_code 4 = .ok (.iload_n 3, 1) := by decide +kernel
theorem d118_5 : decode prog_1_method_47_code 5 = .ok (.aload_n 0, 1) := by decide +kernel
theorem d118_6 : decode prog_1_method_47_code 6 = .ok (.getfield 17, 3) := by decide +kernel
theorem d118_9 : decode prog_1_method_47_code 9 = .ok (.getfield 177, 3) := by decide +kernel
theorem d118_12 : decode prog_1_method_47_code 12 = .ok (.if_icmp .ge 22, 3) := by decide +kernel
theorem d118_15 : decode prog_1_method_47_code 15 = .ok (.aload_n 0, 1) := by decide +kernel
theorem d118_16 : decode prog_1_method_47_code 16 = .ok (.getfield 60, 3) := by decide +kernel
theorem d118_19 : decode prog_1_method_47_code 19 = .ok (.iload_n 3, 1) := by decide +kernel
theorem d118_20 : decode prog_1_method_47_code 20 = .ok (.iaload, 1) := by decide +kernel
theorem d118_21 : decode prog_1_method_47_code 21 = .ok (.iload_n 1, 1) := by decide +kernel
theorem d118_22 : decode prog_1_method_47_code 22 = .ok (.if_icmp .lt 6, 3) := by decide +kernel
theorem d118_25 : decode prog_1_method_47_code 25 = .ok (.iinc 2 1, 3) := by decide +kernel
theorem d118_28 : decode prog_1_method_47_code 28 = .ok (.iinc 3 1, 3) := by decide +kernel
theorem d118_31 : decode prog_1_method_47_code 31 = .ok (.goto (-27), 3) := by decide +kernel
theorem d118_34 : decode prog_1_method_47_code 34 = .ok (.iload_n 2, 1) := by decide +kernel
theorem d118_35 : decode prog_1_method_47_code 35 = .ok (.ireturn, 1) := by decide +kernel
theorem b118_0 {d : Nat} {S : mm_S} {a0 : Nat} {x1 : Int32} : mm_ex d 118 0 [.ref a0, .int x1, .null, .null] [] S =
    mm_ex d 118 4 [.ref a0, .int x1, .int (nI 0), .int (nI 0)] [] S :=
  Eq.trans (mx_iconst t118 d118_0 (v := nI 0) rfl) <|
  Eq.trans (mx_istore_n t118 d118_1 (ls' := [.ref a0, .int x1, .int (nI 0), .null]) rfl rfl) <|
  Eq.trans (mx_iconst t118 d118_2 (v := nI 0) rfl) <|
  (mx_istore_n t118 d118_3 (ls' := [.ref a0, .int x1, .int (nI 0), .int (nI 0)]) rfl rfl)
theorem b118_4 {d : Nat} {S : mm_S} {a0 : Nat} {x1 : Int32} {x2 : Int32} {x3 : Int32} (h0 : mm_obj S a0 11 = true) (h1 : (mm_R S a0 0).isSome = true) (h2 : mm_obj S (mm_rg S a0 0) 1 = true) : mm_ex d 118 4 [.ref a0, .int x1, .int x2, .int x3] [] S =
    if (mm_M S (mm_rg S a0 0) 11) ≤ x3 then mm_ex d 118 34 [.ref a0, .int x1, .int x2, .int x3] [] S else mm_ex d 118 15 [.ref a0, .int x1, .int x2, .int x3] [] S :=
  Eq.trans (mx_iload_n t118 d118_4 (x := x3) rfl) <|
  Eq.trans (mx_aload_n t118 d118_5 (x := a0) rfl) <|
  Eq.trans (mx_getR t118 d118_6 rfl fl11_17 h0 h1) <|
  Eq.trans (mx_geti t118 d118_9 rfl fl11_177 h2) <|
  (mx_cge t118 d118_12 (tgt := 34) (by decide))
theorem b118_15 {d : Nat} {S : mm_S} {a0 : Nat} {x1 : Int32} {x2 : Int32} {x3 : Int32} (h0 : mm_obj S a0 11 = true) (h1 : (mm_R S a0 10).isSome = true) (h2 : mm_inb x3 (mm_N S (mm_rg S a0 10)) = true) (h3 : mm_arr S (mm_rg S a0 10) 13 = true) : mm_ex d 118 15 [.ref a0, .int x1, .int x2, .int x3] [] S =
    if (mm_M S (mm_rg S a0 10) (x3).toNatClampNeg) < x1 then mm_ex d 118 28 [.ref a0, .int x1, .int x2, .int x3] [] S else mm_ex d 118 25 [.ref a0, .int x1, .int x2, .int x3] [] S :=
  Eq.trans (mx_aload_n t118 d118_15 (x := a0) rfl) <|
  Eq.trans (mx_getR t118 d118_16 rfl fl11_60 h0 h1) <|
  Eq.trans (mx_iload_n t118 d118_19 (x := x3) rfl) <|
  Eq.trans (mx_iald t118 d118_20 h3 h2) <|
  Eq.trans (mx_iload_n t118 d118_21 (x := x1) rfl) <|
  (mx_clt t118 d118_22 (tgt := 28) (by decide))
theorem b118_25 {d : Nat} {S : mm_S} {a0 : Nat} {x1 : Int32} {x2 : Int32} {x3 : Int32} : mm_ex d 118 25 [.ref a0, .int x1, .int x2, .int x3] [] S =
    mm_ex d 118 4 [.ref a0, .int x1, .int (x2 + nI 1), .int (x3 + nI 1)] [] S :=
  Eq.trans (mx_iinc t118 d118_25 (x := x2) (v := nI 1) (ls' := [.ref a0, .int x1, .int (x2 + nI 1), .int x3]) rfl rfl rfl rfl) <|
  Eq.trans (mx_iinc t118 d118_28 (x := x3) (v := nI 1) (ls' := [.ref a0, .int x1, .int (x2 + nI 1), .int (x3 + nI 1)]) rfl rfl rfl rfl) <|
  (mx_goto t118 d118_31 (tgt := 4) (by decide))
theorem b118_28 {d : Nat} {S : mm_S} {a0 : Nat} {x1 : Int32} {x2 : Int32} {x3 : Int32} : mm_ex d 118 28 [.ref a0, .int x1, .int x2, .int x3] [] S =
    mm_ex d 118 4 [.ref a0, .int x1, .int x2, .int (x3 + nI 1)] [] S :=
  Eq.trans (mx_iinc t118 d118_28 (x := x3) (v := nI 1) (ls' := [.ref a0, .int x1, .int x2, .int (x3 + nI 1)]) rfl rfl rfl rfl) <|
  (mx_goto t118 d118_31 (tgt := 4) (by decide))
theorem b118_34 {d : Nat} {S : mm_S} {a0 : Nat} {x1 : Int32} {x2 : Int32} {x3 : Int32} : mm_ex d 118 34 [.ref a0, .int x1, .int x2, .int x3] [] S =
    some (some (.int x2), S) :=
  Eq.trans (mx_iload_n t118 d118_34 (x := x2) rfl) <|
  (mx_iret t118 d118_35 (ty := .int) rfl rfl (fun h => nomatch h))
theorem e118 {d : Nat} {S : mm_S} {a0 : Nat} {x1 : Int32} : mm_cl d 118 [.ref a0, .int x1] S = mm_ex d 118 0 [.ref a0, .int x1, .null, .null] [] S := mm_cl_eq t118 (Nat.le_of_ble_eq_true rfl) rfl
/-! X11_findBestLineup -/
theorem dd119_0 : (decode prog_1_method_48_code 0 = .ok (.iconst 0, 1)) ∧ (decode prog_1_method_48_code 1 = .ok (.istore_n 2, 1)) ∧ (decode prog_1_method_48_code 2 = .ok (.aload_n 0, 1)) ∧ (decode prog_1_method_48_code 3 = .ok (.invokevirtual 226, 3)) ∧ (decode prog_1_method_48_code 6 = .ok (.iconst 1, 1)) ∧ (decode prog_1_method_48_code 7 = .ok (.istore_n 3, 1)) ∧ (decode prog_1_method_48_code 8 = .ok (.iconst 0, 1)) ∧ (decode prog_1_method_48_code 9 = .ok (.istore 4, 2)) ∧ (decode prog_1_method_48_code 11 = .ok (.iload 4, 2)) ∧ (decode prog_1_method_48_code 13 = .ok (.bipush 120, 2)) ∧ (decode prog_1_method_48_code 15 = .ok (.if_icmp .ge 81, 3)) ∧ (decode prog_1_method_48_code 18 = .ok (.iload_n 3, 1)) ∧ (decode prog_1_method_48_code 19 = .ok (.ifCond .eq 77, 3)) ∧ (decode prog_1_method_48_code 22 = .ok (.aload_n 0, 1)) ∧ (decode prog_1_method_48_code 23 = .ok (.invokevirtual 229, 3)) ∧ (decode prog_1_method_48_code 26 = .ok (.aload_n 0, 1)) := by decide +kernel
theorem d119_0 : decode prog_1_method_48_code 0 = .ok (.iconst 0, 1) := dd119_0.1
theorem d119_1 : decode prog_1_method_48_code 1 = .ok (.istore_n 2, 1) := dd119_0.2.1
theorem d119_2 : decode prog_1_method_48_code 2 = .ok (.aload_n 0, 1) := dd119_0.2.2.1
theorem d119_3 : decode prog_1_method_48_code 3 = .ok (.invokevirtual 226, 3) := dd119_0.2.2.2.1
theorem d119_6 : decode prog_1_method_48_code 6 = .ok (.iconst 1, 1) := dd119_0.2.2.2.2.1
theorem d119_7 : decode prog_1_method_48_code 7 = .ok (.istore_n 3, 1) := dd119_0.2.2.2.2.2.1
theorem d119_8 : decode prog_1_method_48_code 8 = .ok (.iconst 0, 1) := dd119_0.2.2.2.2.2.2.1
theorem d119_9 : decode prog_1_method_48_code 9 = .ok (.istore 4, 2) := dd119_0.2.2.2.2.2.2.2.1
theorem d119_11 : decode prog_1_method_48_code 11 = .ok (.iload 4, 2) := dd119_0.2.2.2.2.2.2.2.2.1
theorem d119_13 : decode prog_1_method_48_code 13 = .ok (.bipush 120, 2) := dd119_0.2.2.2.2.2.2.2.2.2.1
theorem d119_15 : decode prog_1_method_48_code 15 = .ok (.if_icmp .ge 81, 3) := dd119_0.2.2.2.2.2.2.2.2.2.2.1
theorem d119_18 : decode prog_1_method_48_code 18 = .ok (.iload_n 3, 1) := dd119_0.2.2.2.2.2.2.2.2.2.2.2.1
theorem d119_19 : decode prog_1_method_48_code 19 = .ok (.ifCond .eq 77, 3) := dd119_0.2.2.2.2.2.2.2.2.2.2.2.2.1
theorem d119_22 : decode prog_1_method_48_code 22 = .ok (.aload_n 0, 1) := dd119_0.2.2.2.2.2.2.2.2.2.2.2.2.2.1
theorem d119_23 : decode prog_1_method_48_code 23 = .ok (.invokevirtual 229, 3) := dd119_0.2.2.2.2.2.2.2.2.2.2.2.2.2.2.1
theorem d119_26 : decode prog_1_method_48_code 26 = .ok (.aload_n 0, 1) := dd119_0.2.2.2.2.2.2.2.2.2.2.2.2.2.2.2
theorem dd119_27 : (decode prog_1_method_48_code 27 = .ok (.getfield 26, 3)) ∧ (decode prog_1_method_48_code 30 = .ok (.invokevirtual 218, 3)) ∧ (decode prog_1_method_48_code 33 = .ok (.iload_n 1, 1)) ∧ (decode prog_1_method_48_code 34 = .ok (.ifCond .ne 13, 3)) ∧ (decode prog_1_method_48_code 37 = .ok (.aload_n 0, 1)) ∧ (decode prog_1_method_48_code 38 = .ok (.getfield 26, 3)) ∧ (decode prog_1_method_48_code 41 = .ok (.getfield 171, 3)) ∧ (decode prog_1_method_48_code 44 = .ok (.goto 10, 3)) ∧ (decode prog_1_method_48_code 47 = .ok (.aload_n 0, 1)) ∧ (decode prog_1_method_48_code 48 = .ok (.getfield 26, 3)) ∧ (decode prog_1_method_48_code 51 = .ok (.invokevirtual 351, 3)) ∧ (decode prog_1_method_48_code 54 = .ok (.istore 5, 2)) ∧ (decode prog_1_method_48_code 56 = .ok (.iload 4, 2)) ∧ (decode prog_1_method_48_code 58 = .ok (.ifCond .eq 9, 3)) ∧ (decode prog_1_method_48_code 61 = .ok (.iload 5, 2)) ∧ (decode prog_1_method_48_code 63 = .ok (.iload_n 2, 1)) := by decide +kernel
theorem d119_27 : decode prog_1_method_48_code 27 = .ok (.getfield 26, 3) := dd119_27.1
theorem d119_30 : decode prog_1_method_48_code 30 = .ok (.invokevirtual 218, 3) := dd119_27.2.1
theorem d119_33 : decode prog_1_method_48_code 33 = .ok (.iload_n 1, 1) := dd119_27.2.2.1
theorem d119_34 : decode prog_1_method_48_code 34 = .ok (.ifCond .ne 13, 3) := dd119_27.2.2.2.1
theorem d119_37 : decode prog_1_method_48_code 37 = .ok (.aload_n 0, 1) := dd119_27.2.2.2.2.1
theorem d119_38 : decode prog_1_method_48_code 38 = .ok (.getfield 26, 3) := dd119_27.2.2.2.2.2.1
theorem d119_41 : decode prog_1_method_48_code 41 = .ok (.getfield 171, 3) := dd119_27.2.2.2.2.2.2.1
theorem d119_44 : decode prog_1_method_48_code 44 = .ok (.goto 10, 3) := dd119_27.2.2.2.2.2.2.2.1
theorem d119_47 : decode prog_1_method_48_code 47 = .ok (.aload_n 0, 1) := dd119_27.2.2.2.2.2.2.2.2.1
theorem d119_48 : decode prog_1_method_48_code 48 = .ok (.getfield 26, 3) := dd119_27.2.2.2.2.2.2.2.2.2.1
theorem d119_51 : decode prog_1_method_48_code 51 = .ok (.invokevirtual 351, 3) := dd119_27.2.2.2.2.2.2.2.2.2.2.1
theorem d119_54 : decode prog_1_method_48_code 54 = .ok (.istore 5, 2) := dd119_27.2.2.2.2.2.2.2.2.2.2.2.1
theorem d119_56 : decode prog_1_method_48_code 56 = .ok (.iload 4, 2) := dd119_27.2.2.2.2.2.2.2.2.2.2.2.2.1
theorem d119_58 : decode prog_1_method_48_code 58 = .ok (.ifCond .eq 9, 3) := dd119_27.2.2.2.2.2.2.2.2.2.2.2.2.2.1
theorem d119_61 : decode prog_1_method_48_code 61 = .ok (.iload 5, 2) := dd119_27.2.2.2.2.2.2.2.2.2.2.2.2.2.2.1
theorem d119_63 : decode prog_1_method_48_code 63 = .ok (.iload_n 2, 1) := dd119_27.2.2.2.2.2.2.2.2.2.2.2.2.2.2.2
theorem dd119_64 : (decode prog_1_method_48_code 64 = .ok (.if_icmp .le 21, 3)) ∧ (decode prog_1_method_48_code 67 = .ok (.iload 5, 2)) ∧ (decode prog_1_method_48_code 69 = .ok (.istore_n 2, 1)) ∧ (decode prog_1_method_48_code 70 = .ok (.aload_n 0, 1)) ∧ (decode prog_1_method_48_code 71 = .ok (.getfield 54, 3)) ∧ (decode prog_1_method_48_code 74 = .ok (.iconst 0, 1)) ∧ (decode prog_1_method_48_code 75 = .ok (.aload_n 0, 1)) ∧ (decode prog_1_method_48_code 76 = .ok (.getfield 57, 3)) ∧ (decode prog_1_method_48_code 79 = .ok (.iconst 0, 1)) ∧ (decode prog_1_method_48_code 80 = .ok (.bipush 6, 2)) ∧ (decode prog_1_method_48_code 82 = .ok (.invokestatic 320, 3)) ∧ (decode prog_1_method_48_code 85 = .ok (.aload_n 0, 1)) ∧ (decode prog_1_method_48_code 86 = .ok (.invokevirtual 232, 3)) ∧ (decode prog_1_method_48_code 89 = .ok (.istore_n 3, 1)) ∧ (decode prog_1_method_48_code 90 = .ok (.iinc 4 1, 3)) ∧ (decode prog_1_method_48_code 93 = .ok (.goto (-82), 3)) := by decide +kernel
theorem d119_64 : decode prog_1_method_48_code 64 = .ok (.if_icmp .le 21, 3) := dd119_64.1
theorem d119_67 : decode prog_1_method_48_code 67 = .ok (.iload 5, 2) := dd119_64.2.1
theorem d119_69 : decode prog_1_method_48_code 69 = .ok (.istore_n 2, 1) := dd119_64.2.2.1
theorem d119_70 : decode prog_1_method_48_code 70 = .ok (.aload_n 0, 1) := dd119_64.2.2.2.1
theorem d119_71 : decode prog_1_method_48_code 71 = .ok (.getfield 54, 3) := dd119_64.2.2.2.2.1
theorem d119_74 : decode prog_1_method_48_code 74 = .ok (.iconst 0, 1) := dd119_64.2.2.2.2.2.1
theorem d119_75 : decode prog_1_method_48_code 75 = .ok (.aload_n 0, 1) := dd119_64.2.2.2.2.2.2.1
theorem d119_76 : decode prog_1_method_48_code 76 = .ok (.getfield 57, 3) := dd119_64.2.2.2.2.2.2.2.1
theorem d119_79 : decode prog_1_method_48_code 79 = .ok (.iconst 0, 1) := dd119_64.2.2.2.2.2.2.2.2.1
theorem d119_80 : decode prog_1_method_48_code 80 = .ok (.bipush 6, 2) := dd119_64.2.2.2.2.2.2.2.2.2.1
theorem d119_82 : decode prog_1_method_48_code 82 = .ok (.invokestatic 320, 3) := dd119_64.2.2.2.2.2.2.2.2.2.2.1
theorem d119_85 : decode prog_1_method_48_code 85 = .ok (.aload_n 0, 1) := dd119_64.2.2.2.2.2.2.2.2.2.2.2.1
theorem d119_86 : decode prog_1_method_48_code 86 = .ok (.invokevirtual 232, 3) := dd119_64.2.2.2.2.2.2.2.2.2.2.2.2.1
theorem d119_89 : decode prog_1_method_48_code 89 = .ok (.istore_n 3, 1) := dd119_64.2.2.2.2.2.2.2.2.2.2.2.2.2.1
theorem d119_90 : decode prog_1_method_48_code 90 = .ok (.iinc 4 1, 3) := dd119_64.2.2.2.2.2.2.2.2.2.2.2.2.2.2.1
theorem d119_93 : decode prog_1_method_48_code 93 = .ok (.goto (-82), 3) := dd119_64.2.2.2.2.2.2.2.2.2.2.2.2.2.2.2
theorem dd119_96 : (decode prog_1_method_48_code 96 = .ok (.iload_n 2, 1)) ∧ (decode prog_1_method_48_code 97 = .ok (.ireturn, 1)) := by decide +kernel
theorem d119_96 : decode prog_1_method_48_code 96 = .ok (.iload_n 2, 1) := dd119_96.1
theorem d119_97 : decode prog_1_method_48_code 97 = .ok (.ireturn, 1) := dd119_96.2
theorem b119_0 {d : Nat} {S : mm_S} {a0 : Nat} {x1 : Int32} (h0 : mm_rk S a0 = 11) : mm_ex (d + 1) 119 0 [.ref a0, .int x1, .null, .null, .null, .null] [] S =
    mm_bd (mm_cl d 120 [.ref a0] S) (fun v S2 => mm_ex (d + 1) 119 6 [.ref a0, .int x1, .int (nI 0), .null, .null, .null] (v.toList ++ []) S2) :=
  Eq.trans (mx_iconst t119 d119_0 (v := nI 0) rfl) <|
  Eq.trans (mx_istore_n t119 d119_1 (ls' := [.ref a0, .int x1, .int (nI 0), .null, .null, .null]) rfl rfl) <|
  Eq.trans (mx_aload_n t119 d119_2 (x := a0) rfl) <|
  (mx_virt (st := []) (k := 11) t119 [] d119_3 vt11_226 rfl rfl (Nat.le_of_ble_eq_true rfl) (Nat.le_of_ble_eq_true rfl) h0)
theorem b119_6 {d : Nat} {S : mm_S} {a0 : Nat} {x1 : Int32} {x2 : Int32} : mm_ex d 119 6 [.ref a0, .int x1, .int x2, .null, .null, .null] [] S =
    mm_ex d 119 11 [.ref a0, .int x1, .int x2, .int (nI 1), .int (nI 0), .null] [] S :=
  Eq.trans (mx_iconst t119 d119_6 (v := nI 1) rfl) <|
  Eq.trans (mx_istore_n t119 d119_7 (ls' := [.ref a0, .int x1, .int x2, .int (nI 1), .null, .null]) rfl rfl) <|
  Eq.trans (mx_iconst t119 d119_8 (v := nI 0) rfl) <|
  (mx_istore t119 d119_9 (ls' := [.ref a0, .int x1, .int x2, .int (nI 1), .int (nI 0), .null]) rfl rfl)
theorem b119_11 {d : Nat} {S : mm_S} {a0 : Nat} {x1 : Int32} {x2 : Int32} {x3 : Int32} {x4 : Int32} {v5 : Value} : mm_ex d 119 11 [.ref a0, .int x1, .int x2, .int x3, .int x4, v5] [] S =
    if (nI 120) ≤ x4 then mm_ex d 119 96 [.ref a0, .int x1, .int x2, .int x3, .int x4, v5] [] S else mm_ex d 119 18 [.ref a0, .int x1, .int x2, .int x3, .int x4, v5] [] S :=
  Eq.trans (mx_iload t119 d119_11 (x := x4) rfl) <|
  Eq.trans (mx_bipush t119 d119_13 (v := nI 120) rfl) <|
  (mx_cge t119 d119_15 (tgt := 96) (by decide))
theorem b119_18 {d : Nat} {S : mm_S} {a0 : Nat} {x1 : Int32} {x2 : Int32} {x3 : Int32} {x4 : Int32} {v5 : Value} : mm_ex d 119 18 [.ref a0, .int x1, .int x2, .int x3, .int x4, v5] [] S =
    if x3 = nI 0 then mm_ex d 119 96 [.ref a0, .int x1, .int x2, .int x3, .int x4, v5] [] S else mm_ex d 119 22 [.ref a0, .int x1, .int x2, .int x3, .int x4, v5] [] S :=
  Eq.trans (mx_iload_n t119 d119_18 (x := x3) rfl) <|
  (mx_ieq t119 d119_19 (tgt := 96) (by decide))
theorem b119_22 {d : Nat} {S : mm_S} {a0 : Nat} {x1 : Int32} {x2 : Int32} {x3 : Int32} {x4 : Int32} {v5 : Value} (h0 : mm_rk S a0 = 11) : mm_ex (d + 1) 119 22 [.ref a0, .int x1, .int x2, .int x3, .int x4, v5] [] S =
    mm_bd (mm_cl d 121 [.ref a0] S) (fun v S2 => mm_ex (d + 1) 119 26 [.ref a0, .int x1, .int x2, .int x3, .int x4, v5] (v.toList ++ []) S2) :=
  Eq.trans (mx_aload_n t119 d119_22 (x := a0) rfl) <|
  (mx_virt (st := []) (k := 11) t119 [] d119_23 vt11_229 rfl rfl (Nat.le_of_ble_eq_true rfl) (Nat.le_of_ble_eq_true rfl) h0)
theorem b119_26 {d : Nat} {S : mm_S} {a0 : Nat} {x1 : Int32} {x2 : Int32} {x3 : Int32} {x4 : Int32} {v5 : Value} (h0 : mm_obj S a0 11 = true) (h1 : (mm_R S a0 2).isSome = true) (h2 : mm_rk S (mm_rg S a0 2) = 1) : mm_ex (d + 1) 119 26 [.ref a0, .int x1, .int x2, .int x3, .int x4, v5] [] S =
    mm_bd (mm_cl d 23 [.ref (mm_rg S a0 2)] S) (fun v S2 => mm_ex (d + 1) 119 33 [.ref a0, .int x1, .int x2, .int x3, .int x4, v5] (v.toList ++ []) S2) :=
  Eq.trans (mx_aload_n t119 d119_26 (x := a0) rfl) <|
  Eq.trans (mx_getR t119 d119_27 rfl fl11_26 h0 h1) <|
  (mx_virt (st := []) (k := 1) t119 [] d119_30 vt11_218 rfl rfl (Nat.le_of_ble_eq_true rfl) (Nat.le_of_ble_eq_true rfl) h2)
theorem b119_33 {d : Nat} {S : mm_S} {a0 : Nat} {x1 : Int32} {x2 : Int32} {x3 : Int32} {x4 : Int32} {v5 : Value} : mm_ex d 119 33 [.ref a0, .int x1, .int x2, .int x3, .int x4, v5] [] S =
    if x1 = nI 0 then mm_ex d 119 37 [.ref a0, .int x1, .int x2, .int x3, .int x4, v5] [] S else mm_ex d 119 47 [.ref a0, .int x1, .int x2, .int x3, .int x4, v5] [] S :=
  Eq.trans (mx_iload_n t119 d119_33 (x := x1) rfl) <|
  (mx_ine t119 d119_34 (tgt := 47) (by decide))
theorem b119_37 {d : Nat} {S : mm_S} {a0 : Nat} {x1 : Int32} {x2 : Int32} {x3 : Int32} {x4 : Int32} {v5 : Value} (h0 : mm_obj S a0 11 = true) (h1 : (mm_R S a0 2).isSome = true) (h2 : mm_obj S (mm_rg S a0 2) 1 = true) : mm_ex d 119 37 [.ref a0, .int x1, .int x2, .int x3, .int x4, v5] [] S =
    if x4 = nI 0 then mm_ex d 119 67 [.ref a0, .int x1, .int x2, .int x3, .int x4, .int (mm_M S (mm_rg S a0 2) 14)] [] S else mm_ex d 119 61 [.ref a0, .int x1, .int x2, .int x3, .int x4, .int (mm_M S (mm_rg S a0 2) 14)] [] S :=
  Eq.trans (mx_aload_n t119 d119_37 (x := a0) rfl) <|
  Eq.trans (mx_getR t119 d119_38 rfl fl11_26 h0 h1) <|
  Eq.trans (mx_geti t119 d119_41 rfl fl11_171 h2) <|
  Eq.trans (mx_goto t119 d119_44 (tgt := 54) (by decide)) <|
  Eq.trans (mx_istore t119 d119_54 (ls' := [.ref a0, .int x1, .int x2, .int x3, .int x4, .int (mm_M S (mm_rg S a0 2) 14)]) rfl rfl) <|
  Eq.trans (mx_iload t119 d119_56 (x := x4) rfl) <|
  (mx_ieq t119 d119_58 (tgt := 67) (by decide))
theorem b119_47 {d : Nat} {S : mm_S} {a0 : Nat} {x1 : Int32} {x2 : Int32} {x3 : Int32} {x4 : Int32} {v5 : Value} (h0 : mm_obj S a0 11 = true) (h1 : (mm_R S a0 2).isSome = true) (h2 : mm_rk S (mm_rg S a0 2) = 1) : mm_ex (d + 1) 119 47 [.ref a0, .int x1, .int x2, .int x3, .int x4, v5] [] S =
    mm_bd (mm_cl d 24 [.ref (mm_rg S a0 2)] S) (fun v S2 => mm_ex (d + 1) 119 54 [.ref a0, .int x1, .int x2, .int x3, .int x4, v5] (v.toList ++ []) S2) :=
  Eq.trans (mx_aload_n t119 d119_47 (x := a0) rfl) <|
  Eq.trans (mx_getR t119 d119_48 rfl fl11_26 h0 h1) <|
  (mx_virt (st := []) (k := 1) t119 [] d119_51 vt11_351 rfl rfl (Nat.le_of_ble_eq_true rfl) (Nat.le_of_ble_eq_true rfl) h2)
theorem b119_54 {d : Nat} {S : mm_S} {a0 : Nat} {x1 : Int32} {x2 : Int32} {x3 : Int32} {x4 : Int32} {v5 : Value} {p0 : Int32} : mm_ex d 119 54 [.ref a0, .int x1, .int x2, .int x3, .int x4, v5] [.int p0] S =
    if x4 = nI 0 then mm_ex d 119 67 [.ref a0, .int x1, .int x2, .int x3, .int x4, .int p0] [] S else mm_ex d 119 61 [.ref a0, .int x1, .int x2, .int x3, .int x4, .int p0] [] S :=
  Eq.trans (mx_istore t119 d119_54 (ls' := [.ref a0, .int x1, .int x2, .int x3, .int x4, .int p0]) rfl rfl) <|
  Eq.trans (mx_iload t119 d119_56 (x := x4) rfl) <|
  (mx_ieq t119 d119_58 (tgt := 67) (by decide))
theorem b119_61 {d : Nat} {S : mm_S} {a0 : Nat} {x1 : Int32} {x2 : Int32} {x3 : Int32} {x4 : Int32} {x5 : Int32} : mm_ex d 119 61 [.ref a0, .int x1, .int x2, .int x3, .int x4, .int x5] [] S =
    if x5 ≤ x2 then mm_ex d 119 85 [.ref a0, .int x1, .int x2, .int x3, .int x4, .int x5] [] S else mm_ex d 119 67 [.ref a0, .int x1, .int x2, .int x3, .int x4, .int x5] [] S :=
  Eq.trans (mx_iload t119 d119_61 (x := x5) rfl) <|
  Eq.trans (mx_iload_n t119 d119_63 (x := x2) rfl) <|
  (mx_cle t119 d119_64 (tgt := 85) (by decide))
theorem b119_67 {d : Nat} {S : mm_S} {a0 : Nat} {x1 : Int32} {x2 : Int32} {x3 : Int32} {x4 : Int32} {x5 : Int32} (h0 : mm_obj S a0 11 = true) (h1 : (mm_R S a0 8).isSome = true) (h2 : (mm_R S a0 9).isSome = true) (h3 : mm_arr S (mm_rg S a0 8) 13 = true) (h4 : mm_arr S (mm_rg S a0 9) 13 = true) (h5 : mm_cpOk (nI 0) (nI 0) (nI 6) (mm_N S (mm_rg S a0 8)) (mm_N S (mm_rg S a0 9)) = true) (h6 : mm_rk S a0 = 11) : mm_ex (d + 1) 119 67 [.ref a0, .int x1, .int x2, .int x3, .int x4, .int x5] [] S =
    mm_bd (mm_cl d 122 [.ref a0] (mm_cpM S (mm_rg S a0 8) (mm_rg S a0 9) (nI 0).toNatClampNeg (nI 0).toNatClampNeg (nI 6).toNatClampNeg)) (fun v S2 => mm_ex (d + 1) 119 89 [.ref a0, .int x1, .int x5, .int x3, .int x4, .int x5] (v.toList ++ []) S2) :=
  Eq.trans (mx_iload t119 d119_67 (x := x5) rfl) <|
  Eq.trans (mx_istore_n t119 d119_69 (ls' := [.ref a0, .int x1, .int x5, .int x3, .int x4, .int x5]) rfl rfl) <|
  Eq.trans (mx_aload_n t119 d119_70 (x := a0) rfl) <|
  Eq.trans (mx_getR t119 d119_71 rfl fl11_54 h0 h1) <|
  Eq.trans (mx_iconst t119 d119_74 (v := nI 0) rfl) <|
  Eq.trans (mx_aload_n t119 d119_75 (x := a0) rfl) <|
  Eq.trans (mx_getR t119 d119_76 rfl fl11_57 h0 h2) <|
  Eq.trans (mx_iconst t119 d119_79 (v := nI 0) rfl) <|
  Eq.trans (mx_bipush t119 d119_80 (v := nI 6) rfl) <|
  Eq.trans (mx_cpi2 t119 d119_82 ac11_320 (Nat.le_of_ble_eq_true rfl) h3 h4 h5) <|
  Eq.trans (mx_aload_n t119 d119_85 (x := a0) rfl) <|
  (mx_virt (st := []) (k := 11) t119 [] d119_86 vt11_232 rfl rfl (Nat.le_of_ble_eq_true rfl) (Nat.le_of_ble_eq_true rfl) h6)
theorem b119_85 {d : Nat} {S : mm_S} {a0 : Nat} {x1 : Int32} {x2 : Int32} {x3 : Int32} {x4 : Int32} {x5 : Int32} (h0 : mm_rk S a0 = 11) : mm_ex (d + 1) 119 85 [.ref a0, .int x1, .int x2, .int x3, .int x4, .int x5] [] S =
    mm_bd (mm_cl d 122 [.ref a0] S) (fun v S2 => mm_ex (d + 1) 119 89 [.ref a0, .int x1, .int x2, .int x3, .int x4, .int x5] (v.toList ++ []) S2) :=
  Eq.trans (mx_aload_n t119 d119_85 (x := a0) rfl) <|
  (mx_virt (st := []) (k := 11) t119 [] d119_86 vt11_232 rfl rfl (Nat.le_of_ble_eq_true rfl) (Nat.le_of_ble_eq_true rfl) h0)
theorem b119_89 {d : Nat} {S : mm_S} {a0 : Nat} {x1 : Int32} {x2 : Int32} {x3 : Int32} {x4 : Int32} {x5 : Int32} {p0 : Int32} : mm_ex d 119 89 [.ref a0, .int x1, .int x2, .int x3, .int x4, .int x5] [.int p0] S =
    mm_ex d 119 11 [.ref a0, .int x1, .int x2, .int p0, .int (x4 + nI 1), .int x5] [] S :=
  Eq.trans (mx_istore_n t119 d119_89 (ls' := [.ref a0, .int x1, .int x2, .int p0, .int x4, .int x5]) rfl rfl) <|
  Eq.trans (mx_iinc t119 d119_90 (x := x4) (v := nI 1) (ls' := [.ref a0, .int x1, .int x2, .int p0, .int (x4 + nI 1), .int x5]) rfl rfl rfl rfl) <|
  (mx_goto t119 d119_93 (tgt := 11) (by decide))
theorem b119_96 {d : Nat} {S : mm_S} {a0 : Nat} {x1 : Int32} {x2 : Int32} {x3 : Int32} {x4 : Int32} {v5 : Value} : mm_ex d 119 96 [.ref a0, .int x1, .int x2, .int x3, .int x4, v5] [] S =
    some (some (.int x2), S) :=
  Eq.trans (mx_iload_n t119 d119_96 (x := x2) rfl) <|
  (mx_iret t119 d119_97 (ty := .int) rfl rfl (fun h => nomatch h))
theorem e119 {d : Nat} {S : mm_S} {a0 : Nat} {x1 : Int32} : mm_cl d 119 [.ref a0, .int x1] S = mm_ex d 119 0 [.ref a0, .int x1, .null, .null, .null, .null] [] S := mm_cl_eq t119 (Nat.le_of_ble_eq_true rfl) rfl
/-! X11_startLineups -/
theorem d120_0 : decode prog_1_method_49_code 0 = .ok (.iconst 0, 1) := by decide +kernel
theorem d120_1 : decode prog_1_method_49_code 1 = .ok (.istore_n 1, 1) := by decide +kernel
theorem d120_2 : decode prog_1_method_49_code 2 = .ok (.iconst 0, 1) := by decide +kernel
theorem d120_3 : decode prog_1_method_49_code 3 = .ok (.istore_n 2, 1) := by decide +kernel
theorem d120_4 : decode prog_1_method_49_code 4 = .ok (.iload_n 2, 1) := by decide +kernel
theorem d120_5 : decode prog_1_method_49_code 5 = .ok (.aload_n 0, 1) := by decide +kernel
theorem d120_6 : decode prog_1_method_49_code 6 = .ok (.getfield 17, 3) := by decide +kernel
theorem d120_9 : decode prog_1_method_49_code 9 = .ok (.getfield 65, 3) := by decide +kernel
theorem d120_12 : decode prog_1_method_49_code 12 = .ok (.if_icmp .ge 30, 3) := by decide +kernel
theorem d120_15 : decode prog_1_method_49_code 15 = .ok (.aload_n 0, 1) := by decide +kernel
theorem d120_16 : decode prog_1_method_49_code 16 = .ok (.getfield 17, 3) := by decide +kernel
theorem d120_19 : decode prog_1_method_49_code 19 = .ok (.iload_n 2, 1) := by decide +kernel
theorem d120_20 : decode prog_1_method_49_code 20 = .ok (.invokevirtual 104, 3) := by decide +kernel
theorem d120_23 : decode prog_1_method_49_code 23 = .ok (.ifCond .lt 13, 3) := by decide +kernel
theorem d120_26 : decode prog_1_method_49_code 26 = .ok (.aload_n 0, 1) := by decide +kernel
theorem d120_27 : decode prog_1_method_49_code 27 = .ok (.getfield 54, 3) := by decide +kernel
theorem d120_30 : decode prog_1_method_49_code 30 = .ok (.iload_n 1, 1) := by decide +kernel
theorem d120_31 : decode prog_1_method_49_code 31 = .ok (.iload_n 2, 1) := by decide +kernel
theorem d120_32 : decode prog_1_method_49_code 32 = .ok (.iastore, 1) := by decide +kernel
theorem d120_33 : decode prog_1_method_49_code 33 = .ok (.iinc 1 1, 3) := by decide +kernel
theorem d120_36 : decode prog_1_method_49_code 36 = .ok (.iinc 2 1, 3) := by decide +kernel
theorem d120_39 : decode prog_1_method_49_code 39 = .ok (.goto (-35), 3) := by decide +kernel
theorem d120_42 : decode prog_1_method_49_code 42 = .ok (.return_, 1) := by decide +kernel
theorem b120_0 {d : Nat} {S : mm_S} {a0 : Nat} : mm_ex d 120 0 [.ref a0, .null, .null] [] S =
    mm_ex d 120 4 [.ref a0, .int (nI 0), .int (nI 0)] [] S :=
  Eq.trans (mx_iconst t120 d120_0 (v := nI 0) rfl) <|
  Eq.trans (mx_istore_n t120 d120_1 (ls' := [.ref a0, .int (nI 0), .null]) rfl rfl) <|
  Eq.trans (mx_iconst t120 d120_2 (v := nI 0) rfl) <|
  (mx_istore_n t120 d120_3 (ls' := [.ref a0, .int (nI 0), .int (nI 0)]) rfl rfl)
theorem b120_4 {d : Nat} {S : mm_S} {a0 : Nat} {x1 : Int32} {x2 : Int32} (h0 : mm_obj S a0 11 = true) (h1 : (mm_R S a0 0).isSome = true) (h2 : mm_obj S (mm_rg S a0 0) 1 = true) : mm_ex d 120 4 [.ref a0, .int x1, .int x2] [] S =
    if (mm_M S (mm_rg S a0 0) 10) ≤ x2 then mm_ex d 120 42 [.ref a0, .int x1, .int x2] [] S else mm_ex d 120 15 [.ref a0, .int x1, .int x2] [] S :=
  Eq.trans (mx_iload_n t120 d120_4 (x := x2) rfl) <|
  Eq.trans (mx_aload_n t120 d120_5 (x := a0) rfl) <|
  Eq.trans (mx_getR t120 d120_6 rfl fl11_17 h0 h1) <|
  Eq.trans (mx_geti t120 d120_9 rfl fl11_65 h2) <|
  (mx_cge t120 d120_12 (tgt := 42) (by decide))
theorem b120_15 {d : Nat} {S : mm_S} {a0 : Nat} {x1 : Int32} {x2 : Int32} (h0 : mm_obj S a0 11 = true) (h1 : (mm_R S a0 0).isSome = true) (h2 : mm_rk S (mm_rg S a0 0) = 1) : mm_ex (d + 1) 120 15 [.ref a0, .int x1, .int x2] [] S =
    mm_bd (mm_cl d 12 [.ref (mm_rg S a0 0), .int x2] S) (fun v S2 => mm_ex (d + 1) 120 23 [.ref a0, .int x1, .int x2] (v.toList ++ []) S2) :=
  Eq.trans (mx_aload_n t120 d120_15 (x := a0) rfl) <|
  Eq.trans (mx_getR t120 d120_16 rfl fl11_17 h0 h1) <|
  Eq.trans (mx_iload_n t120 d120_19 (x := x2) rfl) <|
  (mx_virt (st := []) (k := 1) t120 [.int x2] d120_20 vt11_104 rfl rfl (Nat.le_of_ble_eq_true rfl) (Nat.le_of_ble_eq_true rfl) h2)
theorem b120_23 {d : Nat} {S : mm_S} {a0 : Nat} {x1 : Int32} {x2 : Int32} {p0 : Int32} : mm_ex d 120 23 [.ref a0, .int x1, .int x2] [.int p0] S =
    if p0 < nI 0 then mm_ex d 120 36 [.ref a0, .int x1, .int x2] [] S else mm_ex d 120 26 [.ref a0, .int x1, .int x2] [] S :=
  (mx_ilt t120 d120_23 (tgt := 36) (by decide))
theorem b120_26 {d : Nat} {S : mm_S} {a0 : Nat} {x1 : Int32} {x2 : Int32} (h0 : mm_obj S a0 11 = true) (h1 : (mm_R S a0 8).isSome = true) (h2 : mm_arr S (mm_rg S a0 8) 13 = true) (h3 : mm_inb x1 (mm_N S (mm_rg S a0 8)) = true) : mm_ex d 120 26 [.ref a0, .int x1, .int x2] [] S =
    mm_ex d 120 4 [.ref a0, .int (x1 + nI 1), .int (x2 + nI 1)] [] (mm_uM S (mm_rg S a0 8) (x1).toNatClampNeg x2) :=
  Eq.trans (mx_aload_n t120 d120_26 (x := a0) rfl) <|
  Eq.trans (mx_getR t120 d120_27 rfl fl11_54 h0 h1) <|
  Eq.trans (mx_iload_n t120 d120_30 (x := x1) rfl) <|
  Eq.trans (mx_iload_n t120 d120_31 (x := x2) rfl) <|
  Eq.trans (mx_iast2 t120 d120_32 h2 h3) <|
  Eq.trans (mx_iinc t120 d120_33 (x := x1) (v := nI 1) (ls' := [.ref a0, .int (x1 + nI 1), .int x2]) rfl rfl rfl rfl) <|
  Eq.trans (mx_iinc t120 d120_36 (x := x2) (v := nI 1) (ls' := [.ref a0, .int (x1 + nI 1), .int (x2 + nI 1)]) rfl rfl rfl rfl) <|
  (mx_goto t120 d120_39 (tgt := 4) (by decide))
theorem b120_36 {d : Nat} {S : mm_S} {a0 : Nat} {x1 : Int32} {x2 : Int32} : mm_ex d 120 36 [.ref a0, .int x1, .int x2] [] S =
    mm_ex d 120 4 [.ref a0, .int x1, .int (x2 + nI 1)] [] S :=
  Eq.trans (mx_iinc t120 d120_36 (x := x2) (v := nI 1) (ls' := [.ref a0, .int x1, .int (x2 + nI 1)]) rfl rfl rfl rfl) <|
  (mx_goto t120 d120_39 (tgt := 4) (by decide))
theorem b120_42 {d : Nat} {S : mm_S} {a0 : Nat} {x1 : Int32} {x2 : Int32} : mm_ex d 120 42 [.ref a0, .int x1, .int x2] [] S =
    some (none, S) :=
  (mx_vret t120 d120_42 rfl)
theorem e120 {d : Nat} {S : mm_S} {a0 : Nat} : mm_cl d 120 [.ref a0] S = mm_ex d 120 0 [.ref a0, .null, .null] [] S := mm_cl_eq t120 (Nat.le_of_ble_eq_true rfl) rfl
/-! X11_standAsLineup -/
theorem d121_0 : decode prog_1_method_50_code 0 = .ok (.aload_n 0, 1) := by decide +kernel
theorem d121_1 : decode prog_1_method_50_code 1 = .ok (.getfield 26, 3) := by decide +kernel
theorem d121_4 : decode prog_1_method_50_code 4 = .ok (.aload_n 0, 1) := by decide +kernel
theorem d121_5 : decode prog_1_method_50_code 5 = .ok (.getfield 17, 3) := by decide +kernel
theorem d121_8 : decode prog_1_method_50_code 8 = .ok (.invokevirtual 184, 3) := by decide +kernel
theorem d121_11 : decode prog_1_method_50_code 11 = .ok (.aload_n 0, 1) := by decide +kernel
theorem d121_12 : decode prog_1_method_50_code 12 = .ok (.getfield 54, 3) := by decide +kernel
theorem d121_15 : decode prog_1_method_50_code 15 = .ok (.iconst 0, 1) := by decide +kernel
theorem d121_16 : decode prog_1_method_50_code 16 = .ok (.aload_n 0, 1) := by decide +kernel
theorem d121_17 : decode prog_1_method_50_code 17 = .ok (.getfield 26, 3) := by decide +kernel
theorem d121_20 : decode prog_1_method_50_code 20 = .ok (.getfield 242, 3) := by decide +kernel
theorem d121_23 : decode prog_1_method_50_code 23 = .ok (.iconst 0, 1) := by decide +kernel
theorem d121_24 : decode prog_1_method_50_code 24 = .ok (.aload_n 0, 1) := by decide +kernel
theorem d121_25 : decode prog_1_method_50_code 25 = .ok (.getfield 17, 3) := by decide +kernel
theorem d121_28 : decode prog_1_method_50_code 28 = .ok (.getfield 177, 3) := by decide +kernel
theorem d121_31 : decode prog_1_method_50_code 31 = .ok (.invokestatic 320, 3) := by decide +kernel
theorem d121_34 : decode prog_1_method_50_code 34 = .ok (.return_, 1) := by decide +kernel
theorem b121_0 {d : Nat} {S : mm_S} {a0 : Nat} (h0 : mm_obj S a0 11 = true) (h1 : (mm_R S a0 2).isSome = true) (h2 : (mm_R S a0 0).isSome = true) (h3 : mm_rk S (mm_rg S a0 2) = 1) : mm_ex (d + 1) 121 0 [.ref a0] [] S =
    mm_bd (mm_cl d 7 [.ref (mm_rg S a0 2), .ref (mm_rg S a0 0)] S) (fun v S2 => mm_ex (d + 1) 121 11 [.ref a0] (v.toList ++ []) S2) :=
  Eq.trans (mx_aload_n t121 d121_0 (x := a0) rfl) <|
  Eq.trans (mx_getR t121 d121_1 rfl fl11_26 h0 h1) <|
  Eq.trans (mx_aload_n t121 d121_4 (x := a0) rfl) <|
  Eq.trans (mx_getR t121 d121_5 rfl fl11_17 h0 h2) <|
  (mx_virt (st := []) (k := 1) t121 [.ref (mm_rg S a0 0)] d121_8 vt11_184 rfl rfl (Nat.le_of_ble_eq_true rfl) (Nat.le_of_ble_eq_true rfl) h3)
theorem b121_11 {d : Nat} {S : mm_S} {a0 : Nat} (h0 : mm_obj S a0 11 = true) (h1 : (mm_R S a0 8).isSome = true) (h2 : (mm_R S a0 2).isSome = true) (h3 : mm_obj S (mm_rg S a0 2) 1 = true) (h4 : (mm_R S (mm_rg S a0 2) 5).isSome = true) (h5 : (mm_R S a0 0).isSome = true) (h6 : mm_obj S (mm_rg S a0 0) 1 = true) (h7 : mm_arr S (mm_rg S a0 8) 13 = true) (h8 : mm_arr S (mm_rg S (mm_rg S a0 2) 5) 13 = true) (h9 : mm_cpOk (nI 0) (nI 0) (mm_M S (mm_rg S a0 0) 11) (mm_N S (mm_rg S a0 8)) (mm_N S (mm_rg S (mm_rg S a0 2) 5)) = true) : mm_ex (d + 1) 121 11 [.ref a0] [] S =
    some (none, (mm_cpM S (mm_rg S a0 8) (mm_rg S (mm_rg S a0 2) 5) (nI 0).toNatClampNeg (nI 0).toNatClampNeg (mm_M S (mm_rg S a0 0) 11).toNatClampNeg)) :=
  Eq.trans (mx_aload_n t121 d121_11 (x := a0) rfl) <|
  Eq.trans (mx_getR t121 d121_12 rfl fl11_54 h0 h1) <|
  Eq.trans (mx_iconst t121 d121_15 (v := nI 0) rfl) <|
  Eq.trans (mx_aload_n t121 d121_16 (x := a0) rfl) <|
  Eq.trans (mx_getR t121 d121_17 rfl fl11_26 h0 h2) <|
  Eq.trans (mx_getR t121 d121_20 rfl fl11_242 h3 h4) <|
  Eq.trans (mx_iconst t121 d121_23 (v := nI 0) rfl) <|
  Eq.trans (mx_aload_n t121 d121_24 (x := a0) rfl) <|
  Eq.trans (mx_getR t121 d121_25 rfl fl11_17 h0 h5) <|
  Eq.trans (mx_geti t121 d121_28 rfl fl11_177 h6) <|
  Eq.trans (mx_cpi2 t121 d121_31 ac11_320 (Nat.le_of_ble_eq_true rfl) h7 h8 h9) <|
  (mx_vret t121 d121_34 rfl)
theorem e121 {d : Nat} {S : mm_S} {a0 : Nat} : mm_cl d 121 [.ref a0] S = mm_ex d 121 0 [.ref a0] [] S := mm_cl_eq t121 (Nat.le_of_ble_eq_true rfl) rfl
/-! X11_nextLineup -/
theorem dd122_0 : (decode prog_1_method_51_code 0 = .ok (.aload_n 0, 1)) ∧ (decode prog_1_method_51_code 1 = .ok (.getfield 17, 3)) ∧ (decode prog_1_method_51_code 4 = .ok (.getfield 177, 3)) ∧ (decode prog_1_method_51_code 7 = .ok (.iconst 2, 1)) ∧ (decode prog_1_method_51_code 8 = .ok (.isub, 1)) ∧ (decode prog_1_method_51_code 9 = .ok (.istore_n 1, 1)) ∧ (decode prog_1_method_51_code 10 = .ok (.iload_n 1, 1)) ∧ (decode prog_1_method_51_code 11 = .ok (.ifCond .lt 26, 3)) ∧ (decode prog_1_method_51_code 14 = .ok (.aload_n 0, 1)) ∧ (decode prog_1_method_51_code 15 = .ok (.getfield 54, 3)) ∧ (decode prog_1_method_51_code 18 = .ok (.iload_n 1, 1)) ∧ (decode prog_1_method_51_code 19 = .ok (.iaload, 1)) ∧ (decode prog_1_method_51_code 20 = .ok (.aload_n 0, 1)) ∧ (decode prog_1_method_51_code 21 = .ok (.getfield 54, 3)) ∧ (decode prog_1_method_51_code 24 = .ok (.iload_n 1, 1)) ∧ (decode prog_1_method_51_code 25 = .ok (.iconst 1, 1)) := by decide +kernel
theorem d122_0 : decode prog_1_method_51_code 0 = .ok (.aload_n 0, 1) := dd122_0.1
theorem d122_1 : decode prog_1_method_51_code 1 = .ok (.getfield 17, 3) := dd122_0.2.1
theorem d122_4 : decode prog_1_method_51_code 4 = .ok (.getfield 177, 3) := dd122_0.2.2.1
theorem d122_7 : decode prog_1_method_51_code 7 = .ok (.iconst 2, 1) := dd122_0.2.2.2.1
theorem d122_8 : decode prog_1_method_51_code 8 = .ok (.isub, 1) := dd122_0.2.2.2.2.1
theorem d122_9 : decode prog_1_method_51_code 9 = .ok (.istore_n 1, 1) := dd122_0.2.2.2.2.2.1
theorem d122_10 : decode prog_1_method_51_code 10 = .ok (.iload_n 1, 1) := dd122_0.2.2.2.2.2.2.1
theorem d122_11 : decode prog_1_method_51_code 11 = .ok (.ifCond .lt 26, 3) := dd122_0.2.2.2.2.2.2.2.1
theorem d122_14 : decode prog_1_method_51_code 14 = .ok (.aload_n 0, 1) := dd122_0.2.2.2.2.2.2.2.2.1
theorem d122_15 : decode prog_1_method_51_code 15 = .ok (.getfield 54, 3) := dd122_0.2.2.2.2.2.2.2.2.2.1
theorem d122_18 : decode prog_1_method_51_code 18 = .ok (.iload_n 1, 1) := dd122_0.2.2.2.2.2.2.2.2.2.2.1
theorem d122_19 : decode prog_1_method_51_code 19 = .ok (.iaload, 1) := dd122_0.2.2.2.2.2.2.2.2.2.2.2.1
theorem d122_20 : decode prog_1_method_51_code 20 = .ok (.aload_n 0, 1) := dd122_0.2.2.2.2.2.2.2.2.2.2.2.2.1
theorem d122_21 : decode prog_1_method_51_code 21 = .ok (.getfield 54, 3) := dd122_0.2.2.2.2.2.2.2.2.2.2.2.2.2.1
theorem d122_24 : decode prog_1_method_51_code 24 = .ok (.iload_n 1, 1) := dd122_0.2.2.2.2.2.2.2.2.2.2.2.2.2.2.1
theorem d122_25 : decode prog_1_method_51_code 25 = .ok (.iconst 1, 1) := dd122_0.2.2.2.2.2.2.2.2.2.2.2.2.2.2.2
theorem dd122_26 : (decode prog_1_method_51_code 26 = .ok (.iadd, 1)) ∧ (decode prog_1_method_51_code 27 = .ok (.iaload, 1)) ∧ (decode prog_1_method_51_code 28 = .ok (.if_icmp .le 9, 3)) ∧ (decode prog_1_method_51_code 31 = .ok (.iinc 1 (-1), 3)) ∧ (decode prog_1_method_51_code 34 = .ok (.goto (-24), 3)) ∧ (decode prog_1_method_51_code 37 = .ok (.iload_n 1, 1)) ∧ (decode prog_1_method_51_code 38 = .ok (.ifCond .ge 5, 3)) ∧ (decode prog_1_method_51_code 41 = .ok (.iconst 0, 1)) ∧ (decode prog_1_method_51_code 42 = .ok (.ireturn, 1)) ∧ (decode prog_1_method_51_code 43 = .ok (.aload_n 0, 1)) ∧ (decode prog_1_method_51_code 44 = .ok (.getfield 17, 3)) ∧ (decode prog_1_method_51_code 47 = .ok (.getfield 177, 3)) ∧ (decode prog_1_method_51_code 50 = .ok (.iconst 1, 1)) ∧ (decode prog_1_method_51_code 51 = .ok (.isub, 1)) ∧ (decode prog_1_method_51_code 52 = .ok (.istore_n 2, 1)) ∧ (decode prog_1_method_51_code 53 = .ok (.iload_n 2, 1)) := by decide +kernel
theorem d122_26 : decode prog_1_method_51_code 26 = .ok (.iadd, 1) := dd122_26.1
theorem d122_27 : decode prog_1_method_51_code 27 = .ok (.iaload, 1) := dd122_26.2.1
theorem d122_28 : decode prog_1_method_51_code 28 = .ok (.if_icmp .le 9, 3) := dd122_26.2.2.1
theorem d122_31 : decode prog_1_method_51_code 31 = .ok (.iinc 1 (-1), 3) := dd122_26.2.2.2.1
theorem d122_34 : decode prog_1_method_51_code 34 = .ok (.goto (-24), 3) := dd122_26.2.2.2.2.1
theorem d122_37 : decode prog_1_method_51_code 37 = .ok (.iload_n 1, 1) := dd122_26.2.2.2.2.2.1
theorem d122_38 : decode prog_1_method_51_code 38 = .ok (.ifCond .ge 5, 3) := dd122_26.2.2.2.2.2.2.1
theorem d122_41 : decode prog_1_method_51_code 41 = .ok (.iconst 0, 1) := dd122_26.2.2.2.2.2.2.2.1
theorem d122_42 : decode prog_1_method_51_code 42 = .ok (.ireturn, 1) := dd122_26.2.2.2.2.2.2.2.2.1
theorem d122_43 : decode prog_1_method_51_code 43 = .ok (.aload_n 0, 1) := dd122_26.2.2.2.2.2.2.2.2.2.1
theorem d122_44 : decode prog_1_method_51_code 44 = .ok (.getfield 17, 3) := dd122_26.2.2.2.2.2.2.2.2.2.2.1
theorem d122_47 : decode prog_1_method_51_code 47 = .ok (.getfield 177, 3) := dd122_26.2.2.2.2.2.2.2.2.2.2.2.1
theorem d122_50 : decode prog_1_method_51_code 50 = .ok (.iconst 1, 1) := dd122_26.2.2.2.2.2.2.2.2.2.2.2.2.1
theorem d122_51 : decode prog_1_method_51_code 51 = .ok (.isub, 1) := dd122_26.2.2.2.2.2.2.2.2.2.2.2.2.2.1
theorem d122_52 : decode prog_1_method_51_code 52 = .ok (.istore_n 2, 1) := dd122_26.2.2.2.2.2.2.2.2.2.2.2.2.2.2.1
theorem d122_53 : decode prog_1_method_51_code 53 = .ok (.iload_n 2, 1) := dd122_26.2.2.2.2.2.2.2.2.2.2.2.2.2.2.2
theorem dd122_54 : (decode prog_1_method_51_code 54 = .ok (.iload_n 1, 1)) ∧ (decode prog_1_method_51_code 55 = .ok (.if_icmp .le 24, 3)) ∧ (decode prog_1_method_51_code 58 = .ok (.aload_n 0, 1)) ∧ (decode prog_1_method_51_code 59 = .ok (.getfield 54, 3)) ∧ (decode prog_1_method_51_code 62 = .ok (.iload_n 2, 1)) ∧ (decode prog_1_method_51_code 63 = .ok (.iaload, 1)) ∧ (decode prog_1_method_51_code 64 = .ok (.aload_n 0, 1)) ∧ (decode prog_1_method_51_code 65 = .ok (.getfield 54, 3)) ∧ (decode prog_1_method_51_code 68 = .ok (.iload_n 1, 1)) ∧ (decode prog_1_method_51_code 69 = .ok (.iaload, 1)) ∧ (decode prog_1_method_51_code 70 = .ok (.if_icmp .ge 9, 3)) ∧ (decode prog_1_method_51_code 73 = .ok (.iinc 2 (-1), 3)) ∧ (decode prog_1_method_51_code 76 = .ok (.goto (-23), 3)) ∧ (decode prog_1_method_51_code 79 = .ok (.aload_n 0, 1)) ∧ (decode prog_1_method_51_code 80 = .ok (.iload_n 1, 1)) ∧ (decode prog_1_method_51_code 81 = .ok (.iload_n 2, 1)) := by decide +kernel
theorem d122_54 : decode prog_1_method_51_code 54 = .ok (.iload_n 1, 1) := dd122_54.1
theorem d122_55 : decode prog_1_method_51_code 55 = .ok (.if_icmp .le 24, 3) := dd122_54.2.1
theorem d122_58 : decode prog_1_method_51_code 58 = .ok (.aload_n 0, 1) := dd122_54.2.2.1
theorem d122_59 : decode prog_1_method_51_code 59 = .ok (.getfield 54, 3) := dd122_54.2.2.2.1
theorem d122_62 : decode prog_1_method_51_code 62 = .ok (.iload_n 2, 1) := dd122_54.2.2.2.2.1
theorem d122_63 : decode prog_1_method_51_code 63 = .ok (.iaload, 1) := dd122_54.2.2.2.2.2.1
theorem d122_64 : decode prog_1_method_51_code 64 = .ok (.aload_n 0, 1) := dd122_54.2.2.2.2.2.2.1
theorem d122_65 : decode prog_1_method_51_code 65 = .ok (.getfield 54, 3) := dd122_54.2.2.2.2.2.2.2.1
theorem d122_68 : decode prog_1_method_51_code 68 = .ok (.iload_n 1, 1) := dd122_54.2.2.2.2.2.2.2.2.1
theorem d122_69 : decode prog_1_method_51_code 69 = .ok (.iaload, 1) := dd122_54.2.2.2.2.2.2.2.2.2.1
theorem d122_70 : decode prog_1_method_51_code 70 = .ok (.if_icmp .ge 9, 3) := dd122_54.2.2.2.2.2.2.2.2.2.2.1
theorem d122_73 : decode prog_1_method_51_code 73 = .ok (.iinc 2 (-1), 3) := dd122_54.2.2.2.2.2.2.2.2.2.2.2.1
theorem d122_76 : decode prog_1_method_51_code 76 = .ok (.goto (-23), 3) := dd122_54.2.2.2.2.2.2.2.2.2.2.2.2.1
theorem d122_79 : decode prog_1_method_51_code 79 = .ok (.aload_n 0, 1) := dd122_54.2.2.2.2.2.2.2.2.2.2.2.2.2.1
theorem d122_80 : decode prog_1_method_51_code 80 = .ok (.iload_n 1, 1) := dd122_54.2.2.2.2.2.2.2.2.2.2.2.2.2.2.1
theorem d122_81 : decode prog_1_method_51_code 81 = .ok (.iload_n 2, 1) := dd122_54.2.2.2.2.2.2.2.2.2.2.2.2.2.2.2
theorem dd122_82 : (decode prog_1_method_51_code 82 = .ok (.invokevirtual 354, 3)) ∧ (decode prog_1_method_51_code 85 = .ok (.iload_n 1, 1)) ∧ (decode prog_1_method_51_code 86 = .ok (.iconst 1, 1)) ∧ (decode prog_1_method_51_code 87 = .ok (.iadd, 1)) ∧ (decode prog_1_method_51_code 88 = .ok (.istore_n 3, 1)) ∧ (decode prog_1_method_51_code 89 = .ok (.aload_n 0, 1)) ∧ (decode prog_1_method_51_code 90 = .ok (.getfield 17, 3)) ∧ (decode prog_1_method_51_code 93 = .ok (.getfield 177, 3)) ∧ (decode prog_1_method_51_code 96 = .ok (.iconst 1, 1)) ∧ (decode prog_1_method_51_code 97 = .ok (.isub, 1)) ∧ (decode prog_1_method_51_code 98 = .ok (.istore 4, 2)) ∧ (decode prog_1_method_51_code 100 = .ok (.iload_n 3, 1)) ∧ (decode prog_1_method_51_code 101 = .ok (.iload 4, 2)) ∧ (decode prog_1_method_51_code 103 = .ok (.if_icmp .ge 19, 3)) ∧ (decode prog_1_method_51_code 106 = .ok (.aload_n 0, 1)) ∧ (decode prog_1_method_51_code 107 = .ok (.iload_n 3, 1)) := by decide +kernel
theorem d122_82 : decode prog_1_method_51_code 82 = .ok (.invokevirtual 354, 3) := dd122_82.1
theorem d122_85 : decode prog_1_method_51_code 85 = .ok (.iload_n 1, 1) := dd122_82.2.1
theorem d122_86 : decode prog_1_method_51_code 86 = .ok (.iconst 1, 1) := dd122_82.2.2.1
theorem d122_87 : decode prog_1_method_51_code 87 = .ok (.iadd, 1) := dd122_82.2.2.2.1
theorem d122_88 : decode prog_1_method_51_code 88 = .ok (.istore_n 3, 1) := dd122_82.2.2.2.2.1
theorem d122_89 : decode prog_1_method_51_code 89 = .ok (.aload_n 0, 1) := dd122_82.2.2.2.2.2.1
theorem d122_90 : decode prog_1_method_51_code 90 = .ok (.getfield 17, 3) := dd122_82.2.2.2.2.2.2.1
theorem d122_93 : decode prog_1_method_51_code 93 = .ok (.getfield 177, 3) := dd122_82.2.2.2.2.2.2.2.1
theorem d122_96 : decode prog_1_method_51_code 96 = .ok (.iconst 1, 1) := dd122_82.2.2.2.2.2.2.2.2.1
theorem d122_97 : decode prog_1_method_51_code 97 = .ok (.isub, 1) := dd122_82.2.2.2.2.2.2.2.2.2.1
theorem d122_98 : decode prog_1_method_51_code 98 = .ok (.istore 4, 2) := dd122_82.2.2.2.2.2.2.2.2.2.2.1
theorem d122_100 : decode prog_1_method_51_code 100 = .ok (.iload_n 3, 1) := dd122_82.2.2.2.2.2.2.2.2.2.2.2.1
theorem d122_101 : decode prog_1_method_51_code 101 = .ok (.iload 4, 2) := dd122_82.2.2.2.2.2.2.2.2.2.2.2.2.1
theorem d122_103 : decode prog_1_method_51_code 103 = .ok (.if_icmp .ge 19, 3) := dd122_82.2.2.2.2.2.2.2.2.2.2.2.2.2.1
theorem d122_106 : decode prog_1_method_51_code 106 = .ok (.aload_n 0, 1) := dd122_82.2.2.2.2.2.2.2.2.2.2.2.2.2.2.1
theorem d122_107 : decode prog_1_method_51_code 107 = .ok (.iload_n 3, 1) := dd122_82.2.2.2.2.2.2.2.2.2.2.2.2.2.2.2
theorem dd122_108 : (decode prog_1_method_51_code 108 = .ok (.iload 4, 2)) ∧ (decode prog_1_method_51_code 110 = .ok (.invokevirtual 354, 3)) ∧ (decode prog_1_method_51_code 113 = .ok (.iinc 3 1, 3)) ∧ (decode prog_1_method_51_code 116 = .ok (.iinc 4 (-1), 3)) ∧ (decode prog_1_method_51_code 119 = .ok (.goto (-19), 3)) ∧ (decode prog_1_method_51_code 122 = .ok (.iconst 1, 1)) ∧ (decode prog_1_method_51_code 123 = .ok (.ireturn, 1)) := by decide +kernel
theorem d122_108 : decode prog_1_method_51_code 108 = .ok (.iload 4, 2) := dd122_108.1
theorem d122_110 : decode prog_1_method_51_code 110 = .ok (.invokevirtual 354, 3) := dd122_108.2.1
theorem d122_113 : decode prog_1_method_51_code 113 = .ok (.iinc 3 1, 3) := dd122_108.2.2.1
theorem d122_116 : decode prog_1_method_51_code 116 = .ok (.iinc 4 (-1), 3) := dd122_108.2.2.2.1
theorem d122_119 : decode prog_1_method_51_code 119 = .ok (.goto (-19), 3) := dd122_108.2.2.2.2.1
theorem d122_122 : decode prog_1_method_51_code 122 = .ok (.iconst 1, 1) := dd122_108.2.2.2.2.2.1
theorem d122_123 : decode prog_1_method_51_code 123 = .ok (.ireturn, 1) := dd122_108.2.2.2.2.2.2
theorem b122_0 {d : Nat} {S : mm_S} {a0 : Nat} (h0 : mm_obj S a0 11 = true) (h1 : (mm_R S a0 0).isSome = true) (h2 : mm_obj S (mm_rg S a0 0) 1 = true) : mm_ex d 122 0 [.ref a0, .null, .null, .null, .null] [] S =
    mm_ex d 122 10 [.ref a0, .int ((mm_M S (mm_rg S a0 0) 11) - (nI 2)), .null, .null, .null] [] S :=
  Eq.trans (mx_aload_n t122 d122_0 (x := a0) rfl) <|
  Eq.trans (mx_getR t122 d122_1 rfl fl11_17 h0 h1) <|
  Eq.trans (mx_geti t122 d122_4 rfl fl11_177 h2) <|
  Eq.trans (mx_iconst t122 d122_7 (v := nI 2) rfl) <|
  Eq.trans (mx_isub t122 d122_8) <|
  (mx_istore_n t122 d122_9 (ls' := [.ref a0, .int ((mm_M S (mm_rg S a0 0) 11) - (nI 2)), .null, .null, .null]) rfl rfl)
theorem b122_10 {d : Nat} {S : mm_S} {a0 : Nat} {x1 : Int32} : mm_ex d 122 10 [.ref a0, .int x1, .null, .null, .null] [] S =
    if x1 < nI 0 then mm_ex d 122 37 [.ref a0, .int x1, .null, .null, .null] [] S else mm_ex d 122 14 [.ref a0, .int x1, .null, .null, .null] [] S :=
  Eq.trans (mx_iload_n t122 d122_10 (x := x1) rfl) <|
  (mx_ilt t122 d122_11 (tgt := 37) (by decide))
theorem b122_14 {d : Nat} {S : mm_S} {a0 : Nat} {x1 : Int32} (h0 : mm_obj S a0 11 = true) (h1 : (mm_R S a0 8).isSome = true) (h2 : mm_inb x1 (mm_N S (mm_rg S a0 8)) = true) (h3 : mm_arr S (mm_rg S a0 8) 13 = true) (h4 : mm_inb (x1 + (nI 1)) (mm_N S (mm_rg S a0 8)) = true) : mm_ex d 122 14 [.ref a0, .int x1, .null, .null, .null] [] S =
    if (mm_M S (mm_rg S a0 8) (x1).toNatClampNeg) ≤ (mm_M S (mm_rg S a0 8) (x1 + (nI 1)).toNatClampNeg) then mm_ex d 122 37 [.ref a0, .int x1, .null, .null, .null] [] S else mm_ex d 122 31 [.ref a0, .int x1, .null, .null, .null] [] S :=
  Eq.trans (mx_aload_n t122 d122_14 (x := a0) rfl) <|
  Eq.trans (mx_getR t122 d122_15 rfl fl11_54 h0 h1) <|
  Eq.trans (mx_iload_n t122 d122_18 (x := x1) rfl) <|
  Eq.trans (mx_iald t122 d122_19 h3 h2) <|
  Eq.trans (mx_aload_n t122 d122_20 (x := a0) rfl) <|
  Eq.trans (mx_getR t122 d122_21 rfl fl11_54 h0 h1) <|
  Eq.trans (mx_iload_n t122 d122_24 (x := x1) rfl) <|
  Eq.trans (mx_iconst t122 d122_25 (v := nI 1) rfl) <|
  Eq.trans (mx_iadd t122 d122_26) <|
  Eq.trans (mx_iald t122 d122_27 h3 h4) <|
  (mx_cle t122 d122_28 (tgt := 37) (by decide))
theorem b122_31 {d : Nat} {S : mm_S} {a0 : Nat} {x1 : Int32} : mm_ex d 122 31 [.ref a0, .int x1, .null, .null, .null] [] S =
    mm_ex d 122 10 [.ref a0, .int (x1 + (-1)), .null, .null, .null] [] S :=
  Eq.trans (mx_iinc t122 d122_31 (x := x1) (v := -1) (ls' := [.ref a0, .int (x1 + (-1)), .null, .null, .null]) rfl rfl rfl rfl) <|
  (mx_goto t122 d122_34 (tgt := 10) (by decide))
theorem b122_37 {d : Nat} {S : mm_S} {a0 : Nat} {x1 : Int32} : mm_ex d 122 37 [.ref a0, .int x1, .null, .null, .null] [] S =
    if nI 0 ≤ x1 then mm_ex d 122 43 [.ref a0, .int x1, .null, .null, .null] [] S else mm_ex d 122 41 [.ref a0, .int x1, .null, .null, .null] [] S :=
  Eq.trans (mx_iload_n t122 d122_37 (x := x1) rfl) <|
  (mx_ige t122 d122_38 (tgt := 43) (by decide))
theorem b122_41 {d : Nat} {S : mm_S} {a0 : Nat} {x1 : Int32} : mm_ex d 122 41 [.ref a0, .int x1, .null, .null, .null] [] S =
    some (some (.int (nI 0)), S) :=
  Eq.trans (mx_iconst t122 d122_41 (v := nI 0) rfl) <|
  (mx_iret t122 d122_42 (ty := .boolean) rfl rfl (fun h => nomatch h))
theorem b122_43 {d : Nat} {S : mm_S} {a0 : Nat} {x1 : Int32} (h0 : mm_obj S a0 11 = true) (h1 : (mm_R S a0 0).isSome = true) (h2 : mm_obj S (mm_rg S a0 0) 1 = true) : mm_ex d 122 43 [.ref a0, .int x1, .null, .null, .null] [] S =
    mm_ex d 122 53 [.ref a0, .int x1, .int ((mm_M S (mm_rg S a0 0) 11) - (nI 1)), .null, .null] [] S :=
  Eq.trans (mx_aload_n t122 d122_43 (x := a0) rfl) <|
  Eq.trans (mx_getR t122 d122_44 rfl fl11_17 h0 h1) <|
  Eq.trans (mx_geti t122 d122_47 rfl fl11_177 h2) <|
  Eq.trans (mx_iconst t122 d122_50 (v := nI 1) rfl) <|
  Eq.trans (mx_isub t122 d122_51) <|
  (mx_istore_n t122 d122_52 (ls' := [.ref a0, .int x1, .int ((mm_M S (mm_rg S a0 0) 11) - (nI 1)), .null, .null]) rfl rfl)
theorem b122_53 {d : Nat} {S : mm_S} {a0 : Nat} {x1 : Int32} {x2 : Int32} : mm_ex d 122 53 [.ref a0, .int x1, .int x2, .null, .null] [] S =
    if x2 ≤ x1 then mm_ex d 122 79 [.ref a0, .int x1, .int x2, .null, .null] [] S else mm_ex d 122 58 [.ref a0, .int x1, .int x2, .null, .null] [] S :=
  Eq.trans (mx_iload_n t122 d122_53 (x := x2) rfl) <|
  Eq.trans (mx_iload_n t122 d122_54 (x := x1) rfl) <|
  (mx_cle t122 d122_55 (tgt := 79) (by decide))
theorem b122_58 {d : Nat} {S : mm_S} {a0 : Nat} {x1 : Int32} {x2 : Int32} (h0 : mm_obj S a0 11 = true) (h1 : (mm_R S a0 8).isSome = true) (h2 : mm_inb x2 (mm_N S (mm_rg S a0 8)) = true) (h3 : mm_arr S (mm_rg S a0 8) 13 = true) (h4 : mm_inb x1 (mm_N S (mm_rg S a0 8)) = true) : mm_ex d 122 58 [.ref a0, .int x1, .int x2, .null, .null] [] S =
    if (mm_M S (mm_rg S a0 8) (x1).toNatClampNeg) ≤ (mm_M S (mm_rg S a0 8) (x2).toNatClampNeg) then mm_ex d 122 79 [.ref a0, .int x1, .int x2, .null, .null] [] S else mm_ex d 122 73 [.ref a0, .int x1, .int x2, .null, .null] [] S :=
  Eq.trans (mx_aload_n t122 d122_58 (x := a0) rfl) <|
  Eq.trans (mx_getR t122 d122_59 rfl fl11_54 h0 h1) <|
  Eq.trans (mx_iload_n t122 d122_62 (x := x2) rfl) <|
  Eq.trans (mx_iald t122 d122_63 h3 h2) <|
  Eq.trans (mx_aload_n t122 d122_64 (x := a0) rfl) <|
  Eq.trans (mx_getR t122 d122_65 rfl fl11_54 h0 h1) <|
  Eq.trans (mx_iload_n t122 d122_68 (x := x1) rfl) <|
  Eq.trans (mx_iald t122 d122_69 h3 h4) <|
  (mx_cge t122 d122_70 (tgt := 79) (by decide))
theorem b122_73 {d : Nat} {S : mm_S} {a0 : Nat} {x1 : Int32} {x2 : Int32} : mm_ex d 122 73 [.ref a0, .int x1, .int x2, .null, .null] [] S =
    mm_ex d 122 53 [.ref a0, .int x1, .int (x2 + (-1)), .null, .null] [] S :=
  Eq.trans (mx_iinc t122 d122_73 (x := x2) (v := -1) (ls' := [.ref a0, .int x1, .int (x2 + (-1)), .null, .null]) rfl rfl rfl rfl) <|
  (mx_goto t122 d122_76 (tgt := 53) (by decide))
theorem b122_79 {d : Nat} {S : mm_S} {a0 : Nat} {x1 : Int32} {x2 : Int32} (h0 : mm_rk S a0 = 11) : mm_ex (d + 1) 122 79 [.ref a0, .int x1, .int x2, .null, .null] [] S =
    mm_bd (mm_cl d 123 [.ref a0, .int x1, .int x2] S) (fun v S2 => mm_ex (d + 1) 122 85 [.ref a0, .int x1, .int x2, .null, .null] (v.toList ++ []) S2) :=
  Eq.trans (mx_aload_n t122 d122_79 (x := a0) rfl) <|
  Eq.trans (mx_iload_n t122 d122_80 (x := x1) rfl) <|
  Eq.trans (mx_iload_n t122 d122_81 (x := x2) rfl) <|
  (mx_virt (st := []) (k := 11) t122 [.int x1, .int x2] d122_82 vt11_354 rfl rfl (Nat.le_of_ble_eq_true rfl) (Nat.le_of_ble_eq_true rfl) h0)
theorem b122_85 {d : Nat} {S : mm_S} {a0 : Nat} {x1 : Int32} {x2 : Int32} (h0 : mm_obj S a0 11 = true) (h1 : (mm_R S a0 0).isSome = true) (h2 : mm_obj S (mm_rg S a0 0) 1 = true) : mm_ex d 122 85 [.ref a0, .int x1, .int x2, .null, .null] [] S =
    mm_ex d 122 100 [.ref a0, .int x1, .int x2, .int (x1 + (nI 1)), .int ((mm_M S (mm_rg S a0 0) 11) - (nI 1))] [] S :=
  Eq.trans (mx_iload_n t122 d122_85 (x := x1) rfl) <|
  Eq.trans (mx_iconst t122 d122_86 (v := nI 1) rfl) <|
  Eq.trans (mx_iadd t122 d122_87) <|
  Eq.trans (mx_istore_n t122 d122_88 (ls' := [.ref a0, .int x1, .int x2, .int (x1 + (nI 1)), .null]) rfl rfl) <|
  Eq.trans (mx_aload_n t122 d122_89 (x := a0) rfl) <|
  Eq.trans (mx_getR t122 d122_90 rfl fl11_17 h0 h1) <|
  Eq.trans (mx_geti t122 d122_93 rfl fl11_177 h2) <|
  Eq.trans (mx_iconst t122 d122_96 (v := nI 1) rfl) <|
  Eq.trans (mx_isub t122 d122_97) <|
  (mx_istore t122 d122_98 (ls' := [.ref a0, .int x1, .int x2, .int (x1 + (nI 1)), .int ((mm_M S (mm_rg S a0 0) 11) - (nI 1))]) rfl rfl)
theorem b122_100 {d : Nat} {S : mm_S} {a0 : Nat} {x1 : Int32} {x2 : Int32} {x3 : Int32} {x4 : Int32} : mm_ex d 122 100 [.ref a0, .int x1, .int x2, .int x3, .int x4] [] S =
    if x4 ≤ x3 then mm_ex d 122 122 [.ref a0, .int x1, .int x2, .int x3, .int x4] [] S else mm_ex d 122 106 [.ref a0, .int x1, .int x2, .int x3, .int x4] [] S :=
  Eq.trans (mx_iload_n t122 d122_100 (x := x3) rfl) <|
  Eq.trans (mx_iload t122 d122_101 (x := x4) rfl) <|
  (mx_cge t122 d122_103 (tgt := 122) (by decide))
theorem b122_106 {d : Nat} {S : mm_S} {a0 : Nat} {x1 : Int32} {x2 : Int32} {x3 : Int32} {x4 : Int32} (h0 : mm_rk S a0 = 11) : mm_ex (d + 1) 122 106 [.ref a0, .int x1, .int x2, .int x3, .int x4] [] S =
    mm_bd (mm_cl d 123 [.ref a0, .int x3, .int x4] S) (fun v S2 => mm_ex (d + 1) 122 113 [.ref a0, .int x1, .int x2, .int x3, .int x4] (v.toList ++ []) S2) :=
  Eq.trans (mx_aload_n t122 d122_106 (x := a0) rfl) <|
  Eq.trans (mx_iload_n t122 d122_107 (x := x3) rfl) <|
  Eq.trans (mx_iload t122 d122_108 (x := x4) rfl) <|
  (mx_virt (st := []) (k := 11) t122 [.int x3, .int x4] d122_110 vt11_354 rfl rfl (Nat.le_of_ble_eq_true rfl) (Nat.le_of_ble_eq_true rfl) h0)
theorem b122_113 {d : Nat} {S : mm_S} {a0 : Nat} {x1 : Int32} {x2 : Int32} {x3 : Int32} {x4 : Int32} : mm_ex d 122 113 [.ref a0, .int x1, .int x2, .int x3, .int x4] [] S =
    mm_ex d 122 100 [.ref a0, .int x1, .int x2, .int (x3 + nI 1), .int (x4 + (-1))] [] S :=
  Eq.trans (mx_iinc t122 d122_113 (x := x3) (v := nI 1) (ls' := [.ref a0, .int x1, .int x2, .int (x3 + nI 1), .int x4]) rfl rfl rfl rfl) <|
  Eq.trans (mx_iinc t122 d122_116 (x := x4) (v := -1) (ls' := [.ref a0, .int x1, .int x2, .int (x3 + nI 1), .int (x4 + (-1))]) rfl rfl rfl rfl) <|
  (mx_goto t122 d122_119 (tgt := 100) (by decide))
theorem b122_122 {d : Nat} {S : mm_S} {a0 : Nat} {x1 : Int32} {x2 : Int32} {x3 : Int32} {x4 : Int32} : mm_ex d 122 122 [.ref a0, .int x1, .int x2, .int x3, .int x4] [] S =
    some (some (.int (nI 1)), S) :=
  Eq.trans (mx_iconst t122 d122_122 (v := nI 1) rfl) <|
  (mx_iret t122 d122_123 (ty := .boolean) rfl rfl (fun h => nomatch h))
theorem e122 {d : Nat} {S : mm_S} {a0 : Nat} : mm_cl d 122 [.ref a0] S = mm_ex d 122 0 [.ref a0, .null, .null, .null, .null] [] S := mm_cl_eq t122 (Nat.le_of_ble_eq_true rfl) rfl
