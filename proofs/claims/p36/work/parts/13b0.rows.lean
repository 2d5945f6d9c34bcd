/-! X0_init -/
theorem d0_0 : decode prog_2_method_1_code 0 = .ok (.aload_n 0, 1) := by decide +kernel
theorem d0_1 : decode prog_2_method_1_code 1 = .ok (.invokespecial 3, 3) := by decide +kernel
theorem d0_4 : decode prog_2_method_1_code 4 = .ok (.aload_n 0, 1) := by decide +kernel
theorem d0_5 : decode prog_2_method_1_code 5 = .ok (.iload_n 1, 1) := by decide +kernel
theorem d0_6 : decode prog_2_method_1_code 6 = .ok (.putfield 9, 3) := by decide +kernel
theorem d0_9 : decode prog_2_method_1_code 9 = .ok (.aload_n 0, 1) := by decide +kernel
theorem d0_10 : decode prog_2_method_1_code 10 = .ok (.iload_n 2, 1) := by decide +kernel
theorem d0_11 : decode prog_2_method_1_code 11 = .ok (.putfield 15, 3) := by decide +kernel
theorem d0_14 : decode prog_2_method_1_code 14 = .ok (.aload_n 0, 1) := by decide +kernel
theorem d0_15 : decode prog_2_method_1_code 15 = .ok (.iload_n 3, 1) := by decide +kernel
theorem d0_16 : decode prog_2_method_1_code 16 = .ok (.putfield 18, 3) := by decide +kernel
theorem d0_19 : decode prog_2_method_1_code 19 = .ok (.aload_n 0, 1) := by decide +kernel
theorem d0_20 : decode prog_2_method_1_code 20 = .ok (.iload 4, 2) := by decide +kernel
theorem d0_22 : decode prog_2_method_1_code 22 = .ok (.putfield 21, 3) := by decide +kernel
theorem d0_25 : decode prog_2_method_1_code 25 = .ok (.return_, 1) := by decide +kernel
theorem b0_0 {d : Nat} {S : mm_S} {a0 : Nat} {x1 : Int32} {x2 : Int32} {x3 : Int32} {x4 : Int32} (h0 : mm_obj S a0 0 = true) : mm_ex (d + 1) 0 0 [.ref a0, .int x1, .int x2, .int x3, .int x4] [] S =
    some (none, (mm_uM (mm_uM (mm_uM (mm_uM S a0 0 x1) a0 1 x2) a0 2 x3) a0 3 x4)) :=
  Eq.trans (mx_aload_n t0 d0_0 (x := a0) rfl) <|
  Eq.trans (mx_oinit t0 d0_1 oi0_3 (Nat.le_of_ble_eq_true rfl)) <|
  Eq.trans (mx_aload_n t0 d0_4 (x := a0) rfl) <|
  Eq.trans (mx_iload_n t0 d0_5 (x := x1) rfl) <|
  Eq.trans (mx_puti2 t0 d0_6 fl0_9 rfl h0) <|
  Eq.trans (mx_aload_n t0 d0_9 (x := a0) rfl) <|
  Eq.trans (mx_iload_n t0 d0_10 (x := x2) rfl) <|
  Eq.trans (mx_puti2 t0 d0_11 fl0_15 rfl h0) <|
  Eq.trans (mx_aload_n t0 d0_14 (x := a0) rfl) <|
  Eq.trans (mx_iload_n t0 d0_15 (x := x3) rfl) <|
  Eq.trans (mx_puti2 t0 d0_16 fl0_18 rfl h0) <|
  Eq.trans (mx_aload_n t0 d0_19 (x := a0) rfl) <|
  Eq.trans (mx_iload t0 d0_20 (x := x4) rfl) <|
  Eq.trans (mx_puti2 t0 d0_22 fl0_21 rfl h0) <|
  (mx_vret t0 d0_25 rfl)
theorem e0 {d : Nat} {S : mm_S} {a0 : Nat} {x1 : Int32} {x2 : Int32} {x3 : Int32} {x4 : Int32} : mm_cl d 0 [.ref a0, .int x1, .int x2, .int x3, .int x4] S = mm_ex d 0 0 [.ref a0, .int x1, .int x2, .int x3, .int x4] [] S := mm_cl_eq t0 (Nat.le_of_ble_eq_true rfl) rfl
/-! X0_note -/
theorem d1_0 : decode prog_2_method_2_code 0 = .ok (.aload_n 0, 1) := by decide +kernel
theorem d1_1 : decode prog_2_method_2_code 1 = .ok (.iconst 0, 1) := by decide +kernel
theorem d1_2 : decode prog_2_method_2_code 2 = .ok (.dup2, 1) := by decide +kernel
theorem d1_3 : decode prog_2_method_2_code 3 = .ok (.iaload, 1) := by decide +kernel
theorem d1_4 : decode prog_2_method_2_code 4 = .ok (.iconst 1, 1) := by decide +kernel
theorem d1_5 : decode prog_2_method_2_code 5 = .ok (.iadd, 1) := by decide +kernel
theorem d1_6 : decode prog_2_method_2_code 6 = .ok (.iastore, 1) := by decide +kernel
theorem d1_7 : decode prog_2_method_2_code 7 = .ok (.aload_n 0, 1) := by decide +kernel
theorem d1_8 : decode prog_2_method_2_code 8 = .ok (.iconst 0, 1) := by decide +kernel
theorem d1_9 : decode prog_2_method_2_code 9 = .ok (.iaload, 1) := by decide +kernel
theorem d1_10 : decode prog_2_method_2_code 10 = .ok (.aload_n 0, 1) := by decide +kernel
theorem d1_11 : decode prog_2_method_2_code 11 = .ok (.arraylength, 1) := by decide +kernel
theorem d1_12 : decode prog_2_method_2_code 12 = .ok (.if_icmp .ge 9, 3) := by decide +kernel
theorem d1_15 : decode prog_2_method_2_code 15 = .ok (.aload_n 0, 1) := by decide +kernel
theorem d1_16 : decode prog_2_method_2_code 16 = .ok (.aload_n 0, 1) := by decide +kernel
theorem d1_17 : decode prog_2_method_2_code 17 = .ok (.iconst 0, 1) := by decide +kernel
theorem d1_18 : decode prog_2_method_2_code 18 = .ok (.iaload, 1) := by decide +kernel
theorem d1_19 : decode prog_2_method_2_code 19 = .ok (.iload_n 1, 1) := by decide +kernel
theorem d1_20 : decode prog_2_method_2_code 20 = .ok (.iastore, 1) := by decide +kernel
theorem d1_21 : decode prog_2_method_2_code 21 = .ok (.return_, 1) := by decide +kernel
theorem b1_0 {d : Nat} {S : mm_S} {a0 : Nat} {x1 : Int32} (h0 : mm_inb (nI 0) (mm_N S a0) = true) (h1 : mm_arr S a0 13 = true) : mm_ex d 1 0 [.ref a0, .int x1] [] S =
    mm_ex d 1 9 [.ref a0, .int x1] [.int (nI 0), .ref a0] (mm_uM S a0 (nI 0).toNatClampNeg ((mm_M S a0 (nI 0).toNatClampNeg) + (nI 1))) :=
  Eq.trans (mx_aload_n t1 d1_0 (x := a0) rfl) <|
  Eq.trans (mx_iconst t1 d1_1 (v := nI 0) rfl) <|
  Eq.trans (mx_dup2i t1 d1_2) <|
  Eq.trans (mx_iald t1 d1_3 h1 h0) <|
  Eq.trans (mx_iconst t1 d1_4 (v := nI 1) rfl) <|
  Eq.trans (mx_iadd t1 d1_5) <|
  Eq.trans (mx_iast2 t1 d1_6 h1 h0) <|
  Eq.trans (mx_aload_n t1 d1_7 (x := a0) rfl) <|
  (mx_iconst t1 d1_8 (v := nI 0) rfl)
theorem b1_9 {d : Nat} {S : mm_S} {a0 : Nat} {x1 : Int32} {p0 : Int32} {p1 : Nat} (h0 : mm_inb p0 (mm_N S p1) = true) (h1 : mm_arr S p1 13 = true) (h2 : mm_arr S a0 13 = true) : mm_ex d 1 9 [.ref a0, .int x1] [.int p0, .ref p1] S =
    if (nI (mm_N S a0)) ≤ (mm_M S p1 (p0).toNatClampNeg) then mm_ex d 1 21 [.ref a0, .int x1] [] S else mm_ex d 1 15 [.ref a0, .int x1] [] S :=
  Eq.trans (mx_iald t1 d1_9 h1 h0) <|
  Eq.trans (mx_aload_n t1 d1_10 (x := a0) rfl) <|
  Eq.trans (mx_aleni t1 d1_11 h2) <|
  (mx_cge t1 d1_12 (tgt := 21) (by decide))
theorem b1_15 {d : Nat} {S : mm_S} {a0 : Nat} {x1 : Int32} (h0 : mm_inb (nI 0) (mm_N S a0) = true) (h1 : mm_arr S a0 13 = true) (h2 : mm_inb (mm_M S a0 (nI 0).toNatClampNeg) (mm_N S a0) = true) : mm_ex d 1 15 [.ref a0, .int x1] [] S =
    some (none, (mm_uM S a0 (mm_M S a0 (nI 0).toNatClampNeg).toNatClampNeg x1)) :=
  Eq.trans (mx_aload_n t1 d1_15 (x := a0) rfl) <|
  Eq.trans (mx_aload_n t1 d1_16 (x := a0) rfl) <|
  Eq.trans (mx_iconst t1 d1_17 (v := nI 0) rfl) <|
  Eq.trans (mx_iald t1 d1_18 h1 h0) <|
  Eq.trans (mx_iload_n t1 d1_19 (x := x1) rfl) <|
  Eq.trans (mx_iast2 t1 d1_20 h1 h2) <|
  (mx_vret t1 d1_21 rfl)
theorem b1_21 {d : Nat} {S : mm_S} {a0 : Nat} {x1 : Int32} : mm_ex d 1 21 [.ref a0, .int x1] [] S =
    some (none, S) :=
  (mx_vret t1 d1_21 rfl)
theorem e1 {d : Nat} {S : mm_S} {a0 : Nat} {x1 : Int32} : mm_cl d 1 [.ref a0, .int x1] S = mm_ex d 1 0 [.ref a0, .int x1] [] S := mm_cl_eq t1 (Nat.le_of_ble_eq_true rfl) rfl
/-! X0_does -/
theorem d2_0 : decode prog_2_method_3_code 0 = .ok (.aload_n 1, 1) := by decide +kernel
theorem d2_1 : decode prog_2_method_3_code 1 = .ok (.invokevirtual 24, 3) := by decide +kernel
theorem d2_4 : decode prog_2_method_3_code 4 = .ok (.ifCond .lt 7, 3) := by decide +kernel
theorem d2_7 : decode prog_2_method_3_code 7 = .ok (.iconst 1, 1) := by decide +kernel
theorem d2_8 : decode prog_2_method_3_code 8 = .ok (.goto 4, 3) := by decide +kernel
theorem d2_11 : decode prog_2_method_3_code 11 = .ok (.iconst 2, 1) := by decide +kernel
theorem d2_12 : decode prog_2_method_3_code 12 = .ok (.ireturn, 1) := by decide +kernel
theorem b2_0 {d : Nat} {S : mm_S} {a0 : Nat} {a1 : Nat} (h0 : mm_rk S a1 = 1) : mm_ex (d + 1) 2 0 [.ref a0, .ref a1] [] S =
    mm_bd (mm_cl d 18 [.ref a1] S) (fun v S2 => mm_ex (d + 1) 2 4 [.ref a0, .ref a1] (v.toList ++ []) S2) :=
  Eq.trans (mx_aload_n t2 d2_0 (x := a1) rfl) <|
  (mx_virt (st := []) (k := 1) t2 [] d2_1 vt0_24 rfl rfl (Nat.le_of_ble_eq_true rfl) (Nat.le_of_ble_eq_true rfl) h0)
theorem b2_4 {d : Nat} {S : mm_S} {a0 : Nat} {a1 : Nat} {p0 : Int32} : mm_ex d 2 4 [.ref a0, .ref a1] [.int p0] S =
    if p0 < nI 0 then mm_ex d 2 11 [.ref a0, .ref a1] [] S else mm_ex d 2 7 [.ref a0, .ref a1] [] S :=
  (mx_ilt t2 d2_4 (tgt := 11) (by decide))
theorem b2_7 {d : Nat} {S : mm_S} {a0 : Nat} {a1 : Nat} : mm_ex d 2 7 [.ref a0, .ref a1] [] S =
    some (some (.int (nI 1)), S) :=
  Eq.trans (mx_iconst t2 d2_7 (v := nI 1) rfl) <|
  Eq.trans (mx_goto t2 d2_8 (tgt := 12) (by decide)) <|
  (mx_iret t2 d2_12 (ty := .int) rfl rfl (fun h => nomatch h))
theorem b2_11 {d : Nat} {S : mm_S} {a0 : Nat} {a1 : Nat} : mm_ex d 2 11 [.ref a0, .ref a1] [] S =
    some (some (.int (nI 2)), S) :=
  Eq.trans (mx_iconst t2 d2_11 (v := nI 2) rfl) <|
  (mx_iret t2 d2_12 (ty := .int) rfl rfl (fun h => nomatch h))
theorem e2 {d : Nat} {S : mm_S} {a0 : Nat} {a1 : Nat} : mm_cl d 2 [.ref a0, .ref a1] S = mm_ex d 2 0 [.ref a0, .ref a1] [] S := mm_cl_eq t2 (Nat.le_of_ble_eq_true rfl) rfl
/-! X0_bids -/
theorem d3_0 : decode prog_2_method_4_code 0 = .ok (.aload_n 2, 1) := by decide +kernel
theorem d3_1 : decode prog_2_method_4_code 1 = .ok (.bipush 10, 2) := by decide +kernel
theorem d3_3 : decode prog_2_method_4_code 3 = .ok (.invokestatic 30, 3) := by decide +kernel
theorem d3_6 : decode prog_2_method_4_code 6 = .ok (.iload_n 1, 1) := by decide +kernel
theorem d3_7 : decode prog_2_method_4_code 7 = .ok (.aload_n 0, 1) := by decide +kernel
theorem d3_8 : decode prog_2_method_4_code 8 = .ok (.getfield 15, 3) := by decide +kernel
theorem d3_11 : decode prog_2_method_4_code 11 = .ok (.iadd, 1) := by decide +kernel
theorem d3_12 : decode prog_2_method_4_code 12 = .ok (.ireturn, 1) := by decide +kernel
theorem b3_0 {d : Nat} {S : mm_S} {a0 : Nat} {x1 : Int32} {a2 : Nat} : mm_ex (d + 1) 3 0 [.ref a0, .int x1, .ref a2] [] S =
    mm_bd (mm_cl d 1 [.ref a2, .int (nI 10)] S) (fun v S2 => mm_ex (d + 1) 3 6 [.ref a0, .int x1, .ref a2] (v.toList ++ []) S2) :=
  Eq.trans (mx_aload_n t3 d3_0 (x := a2) rfl) <|
  Eq.trans (mx_bipush t3 d3_1 (v := nI 10) rfl) <|
  (mx_stat (st := []) t3 [.ref a2, .int (nI 10)] d3_3 acn0_30 mxn0_30 st0_30 rfl (Nat.le_of_ble_eq_true rfl) (Nat.le_of_ble_eq_true rfl))
theorem b3_6 {d : Nat} {S : mm_S} {a0 : Nat} {x1 : Int32} {a2 : Nat} (h0 : mm_obj S a0 0 = true) : mm_ex d 3 6 [.ref a0, .int x1, .ref a2] [] S =
    some (some (.int (x1 + (mm_M S a0 1))), S) :=
  Eq.trans (mx_iload_n t3 d3_6 (x := x1) rfl) <|
  Eq.trans (mx_aload_n t3 d3_7 (x := a0) rfl) <|
  Eq.trans (mx_geti t3 d3_8 rfl fl0_15 h0) <|
  Eq.trans (mx_iadd t3 d3_11) <|
  (mx_iret t3 d3_12 (ty := .int) rfl rfl (fun h => nomatch h))
theorem e3 {d : Nat} {S : mm_S} {a0 : Nat} {x1 : Int32} {a2 : Nat} : mm_cl d 3 [.ref a0, .int x1, .ref a2] S = mm_ex d 3 0 [.ref a0, .int x1, .ref a2] [] S := mm_cl_eq t3 (Nat.le_of_ble_eq_true rfl) rfl
/-! X0_waits -/
theorem d4_0 : decode prog_2_method_5_code 0 = .ok (.aload_n 2, 1) := by decide +kernel
theorem d4_1 : decode prog_2_method_5_code 1 = .ok (.bipush 11, 2) := by decide +kernel
theorem d4_3 : decode prog_2_method_5_code 3 = .ok (.invokestatic 30, 3) := by decide +kernel
theorem d4_6 : decode prog_2_method_5_code 6 = .ok (.aload_n 0, 1) := by decide +kernel
theorem d4_7 : decode prog_2_method_5_code 7 = .ok (.iload_n 1, 1) := by decide +kernel
theorem d4_8 : decode prog_2_method_5_code 8 = .ok (.aload_n 2, 1) := by decide +kernel
theorem d4_9 : decode prog_2_method_5_code 9 = .ok (.invokevirtual 34, 3) := by decide +kernel
theorem d4_12 : decode prog_2_method_5_code 12 = .ok (.aload_n 0, 1) := by decide +kernel
theorem d4_13 : decode prog_2_method_5_code 13 = .ok (.getfield 18, 3) := by decide +kernel
theorem d4_16 : decode prog_2_method_5_code 16 = .ok (.isub, 1) := by decide +kernel
theorem d4_17 : decode prog_2_method_5_code 17 = .ok (.ireturn, 1) := by decide +kernel
theorem b4_0 {d : Nat} {S : mm_S} {a0 : Nat} {x1 : Int32} {a2 : Nat} : mm_ex (d + 1) 4 0 [.ref a0, .int x1, .ref a2] [] S =
    mm_bd (mm_cl d 1 [.ref a2, .int (nI 11)] S) (fun v S2 => mm_ex (d + 1) 4 6 [.ref a0, .int x1, .ref a2] (v.toList ++ []) S2) :=
  Eq.trans (mx_aload_n t4 d4_0 (x := a2) rfl) <|
  Eq.trans (mx_bipush t4 d4_1 (v := nI 11) rfl) <|
  (mx_stat (st := []) t4 [.ref a2, .int (nI 11)] d4_3 acn0_30 mxn0_30 st0_30 rfl (Nat.le_of_ble_eq_true rfl) (Nat.le_of_ble_eq_true rfl))
theorem b4_6_k0 {d : Nat} {S : mm_S} {a0 : Nat} {x1 : Int32} {a2 : Nat} (h0 : mm_rk S a0 = 0) : mm_ex (d + 1) 4 6 [.ref a0, .int x1, .ref a2] [] S =
    mm_bd (mm_cl d 3 [.ref a0, .int x1, .ref a2] S) (fun v S2 => mm_ex (d + 1) 4 12 [.ref a0, .int x1, .ref a2] (v.toList ++ []) S2) :=
  Eq.trans (mx_aload_n t4 d4_6 (x := a0) rfl) <|
  Eq.trans (mx_iload_n t4 d4_7 (x := x1) rfl) <|
  Eq.trans (mx_aload_n t4 d4_8 (x := a2) rfl) <|
  (mx_virt (st := []) (k := 0) t4 [.int x1, .ref a2] d4_9 vt0_34 rfl rfl (Nat.le_of_ble_eq_true rfl) (Nat.le_of_ble_eq_true rfl) h0)
theorem b4_6_k2 {d : Nat} {S : mm_S} {a0 : Nat} {x1 : Int32} {a2 : Nat} (h0 : mm_rk S a0 = 2) : mm_ex (d + 1) 4 6 [.ref a0, .int x1, .ref a2] [] S =
    mm_bd (mm_cl d 3 [.ref a0, .int x1, .ref a2] S) (fun v S2 => mm_ex (d + 1) 4 12 [.ref a0, .int x1, .ref a2] (v.toList ++ []) S2) :=
  Eq.trans (mx_aload_n t4 d4_6 (x := a0) rfl) <|
  Eq.trans (mx_iload_n t4 d4_7 (x := x1) rfl) <|
  Eq.trans (mx_aload_n t4 d4_8 (x := a2) rfl) <|
  (mx_virt (st := []) (k := 2) t4 [.int x1, .ref a2] d4_9 vt0_34 rfl rfl (Nat.le_of_ble_eq_true rfl) (Nat.le_of_ble_eq_true rfl) h0)
theorem b4_6_k3 {d : Nat} {S : mm_S} {a0 : Nat} {x1 : Int32} {a2 : Nat} (h0 : mm_rk S a0 = 3) : mm_ex (d + 1) 4 6 [.ref a0, .int x1, .ref a2] [] S =
    mm_bd (mm_cl d 71 [.ref a0, .int x1, .ref a2] S) (fun v S2 => mm_ex (d + 1) 4 12 [.ref a0, .int x1, .ref a2] (v.toList ++ []) S2) :=
  Eq.trans (mx_aload_n t4 d4_6 (x := a0) rfl) <|
  Eq.trans (mx_iload_n t4 d4_7 (x := x1) rfl) <|
  Eq.trans (mx_aload_n t4 d4_8 (x := a2) rfl) <|
  (mx_virt (st := []) (k := 3) t4 [.int x1, .ref a2] d4_9 vt0_34 rfl rfl (Nat.le_of_ble_eq_true rfl) (Nat.le_of_ble_eq_true rfl) h0)
theorem b4_6_k4 {d : Nat} {S : mm_S} {a0 : Nat} {x1 : Int32} {a2 : Nat} (h0 : mm_rk S a0 = 4) : mm_ex (d + 1) 4 6 [.ref a0, .int x1, .ref a2] [] S =
    mm_bd (mm_cl d 3 [.ref a0, .int x1, .ref a2] S) (fun v S2 => mm_ex (d + 1) 4 12 [.ref a0, .int x1, .ref a2] (v.toList ++ []) S2) :=
  Eq.trans (mx_aload_n t4 d4_6 (x := a0) rfl) <|
  Eq.trans (mx_iload_n t4 d4_7 (x := x1) rfl) <|
  Eq.trans (mx_aload_n t4 d4_8 (x := a2) rfl) <|
  (mx_virt (st := []) (k := 4) t4 [.int x1, .ref a2] d4_9 vt0_34 rfl rfl (Nat.le_of_ble_eq_true rfl) (Nat.le_of_ble_eq_true rfl) h0)
theorem b4_6_k7 {d : Nat} {S : mm_S} {a0 : Nat} {x1 : Int32} {a2 : Nat} (h0 : mm_rk S a0 = 7) : mm_ex (d + 1) 4 6 [.ref a0, .int x1, .ref a2] [] S =
    mm_bd (mm_cl d 57 [.ref a0, .int x1, .ref a2] S) (fun v S2 => mm_ex (d + 1) 4 12 [.ref a0, .int x1, .ref a2] (v.toList ++ []) S2) :=
  Eq.trans (mx_aload_n t4 d4_6 (x := a0) rfl) <|
  Eq.trans (mx_iload_n t4 d4_7 (x := x1) rfl) <|
  Eq.trans (mx_aload_n t4 d4_8 (x := a2) rfl) <|
  (mx_virt (st := []) (k := 7) t4 [.int x1, .ref a2] d4_9 vt0_34 rfl rfl (Nat.le_of_ble_eq_true rfl) (Nat.le_of_ble_eq_true rfl) h0)
theorem b4_6_k9 {d : Nat} {S : mm_S} {a0 : Nat} {x1 : Int32} {a2 : Nat} (h0 : mm_rk S a0 = 9) : mm_ex (d + 1) 4 6 [.ref a0, .int x1, .ref a2] [] S =
    mm_bd (mm_cl d 68 [.ref a0, .int x1, .ref a2] S) (fun v S2 => mm_ex (d + 1) 4 12 [.ref a0, .int x1, .ref a2] (v.toList ++ []) S2) :=
  Eq.trans (mx_aload_n t4 d4_6 (x := a0) rfl) <|
  Eq.trans (mx_iload_n t4 d4_7 (x := x1) rfl) <|
  Eq.trans (mx_aload_n t4 d4_8 (x := a2) rfl) <|
  (mx_virt (st := []) (k := 9) t4 [.int x1, .ref a2] d4_9 vt0_34 rfl rfl (Nat.le_of_ble_eq_true rfl) (Nat.le_of_ble_eq_true rfl) h0)
theorem b4_6_k10 {d : Nat} {S : mm_S} {a0 : Nat} {x1 : Int32} {a2 : Nat} (h0 : mm_rk S a0 = 10) : mm_ex (d + 1) 4 6 [.ref a0, .int x1, .ref a2] [] S =
    mm_bd (mm_cl d 71 [.ref a0, .int x1, .ref a2] S) (fun v S2 => mm_ex (d + 1) 4 12 [.ref a0, .int x1, .ref a2] (v.toList ++ []) S2) :=
  Eq.trans (mx_aload_n t4 d4_6 (x := a0) rfl) <|
  Eq.trans (mx_iload_n t4 d4_7 (x := x1) rfl) <|
  Eq.trans (mx_aload_n t4 d4_8 (x := a2) rfl) <|
  (mx_virt (st := []) (k := 10) t4 [.int x1, .ref a2] d4_9 vt0_34 rfl rfl (Nat.le_of_ble_eq_true rfl) (Nat.le_of_ble_eq_true rfl) h0)
theorem b4_12 {d : Nat} {S : mm_S} {a0 : Nat} {x1 : Int32} {a2 : Nat} {p0 : Int32} (h0 : mm_obj S a0 0 = true) : mm_ex d 4 12 [.ref a0, .int x1, .ref a2] [.int p0] S =
    some (some (.int (p0 - (mm_M S a0 2))), S) :=
  Eq.trans (mx_aload_n t4 d4_12 (x := a0) rfl) <|
  Eq.trans (mx_geti t4 d4_13 rfl fl0_18 h0) <|
  Eq.trans (mx_isub t4 d4_16) <|
  (mx_iret t4 d4_17 (ty := .int) rfl rfl (fun h => nomatch h))
theorem e4 {d : Nat} {S : mm_S} {a0 : Nat} {x1 : Int32} {a2 : Nat} : mm_cl d 4 [.ref a0, .int x1, .ref a2] S = mm_ex d 4 0 [.ref a0, .int x1, .ref a2] [] S := mm_cl_eq t4 (Nat.le_of_ble_eq_true rfl) rfl
/-! X0_tells -/
theorem d5_0 : decode prog_2_method_6_code 0 = .ok (.aload_n 2, 1) := by decide +kernel
theorem d5_1 : decode prog_2_method_6_code 1 = .ok (.bipush 12, 2) := by decide +kernel
theorem d5_3 : decode prog_2_method_6_code 3 = .ok (.invokestatic 30, 3) := by decide +kernel
theorem d5_6 : decode prog_2_method_6_code 6 = .ok (.aload_n 0, 1) := by decide +kernel
theorem d5_7 : decode prog_2_method_6_code 7 = .ok (.iload_n 1, 1) := by decide +kernel
theorem d5_8 : decode prog_2_method_6_code 8 = .ok (.aload_n 2, 1) := by decide +kernel
theorem d5_9 : decode prog_2_method_6_code 9 = .ok (.invokevirtual 38, 3) := by decide +kernel
theorem d5_12 : decode prog_2_method_6_code 12 = .ok (.iconst 2, 1) := by decide +kernel
theorem d5_13 : decode prog_2_method_6_code 13 = .ok (.imul, 1) := by decide +kernel
theorem d5_14 : decode prog_2_method_6_code 14 = .ok (.ireturn, 1) := by decide +kernel
theorem b5_0 {d : Nat} {S : mm_S} {a0 : Nat} {x1 : Int32} {a2 : Nat} : mm_ex (d + 1) 5 0 [.ref a0, .int x1, .ref a2] [] S =
    mm_bd (mm_cl d 1 [.ref a2, .int (nI 12)] S) (fun v S2 => mm_ex (d + 1) 5 6 [.ref a0, .int x1, .ref a2] (v.toList ++ []) S2) :=
  Eq.trans (mx_aload_n t5 d5_0 (x := a2) rfl) <|
  Eq.trans (mx_bipush t5 d5_1 (v := nI 12) rfl) <|
  (mx_stat (st := []) t5 [.ref a2, .int (nI 12)] d5_3 acn0_30 mxn0_30 st0_30 rfl (Nat.le_of_ble_eq_true rfl) (Nat.le_of_ble_eq_true rfl))
theorem b5_6_k0 {d : Nat} {S : mm_S} {a0 : Nat} {x1 : Int32} {a2 : Nat} (h0 : mm_rk S a0 = 0) : mm_ex (d + 1) 5 6 [.ref a0, .int x1, .ref a2] [] S =
    mm_bd (mm_cl d 4 [.ref a0, .int x1, .ref a2] S) (fun v S2 => mm_ex (d + 1) 5 12 [.ref a0, .int x1, .ref a2] (v.toList ++ []) S2) :=
  Eq.trans (mx_aload_n t5 d5_6 (x := a0) rfl) <|
  Eq.trans (mx_iload_n t5 d5_7 (x := x1) rfl) <|
  Eq.trans (mx_aload_n t5 d5_8 (x := a2) rfl) <|
  (mx_virt (st := []) (k := 0) t5 [.int x1, .ref a2] d5_9 vt0_38 rfl rfl (Nat.le_of_ble_eq_true rfl) (Nat.le_of_ble_eq_true rfl) h0)
theorem b5_6_k2 {d : Nat} {S : mm_S} {a0 : Nat} {x1 : Int32} {a2 : Nat} (h0 : mm_rk S a0 = 2) : mm_ex (d + 1) 5 6 [.ref a0, .int x1, .ref a2] [] S =
    mm_bd (mm_cl d 4 [.ref a0, .int x1, .ref a2] S) (fun v S2 => mm_ex (d + 1) 5 12 [.ref a0, .int x1, .ref a2] (v.toList ++ []) S2) :=
  Eq.trans (mx_aload_n t5 d5_6 (x := a0) rfl) <|
  Eq.trans (mx_iload_n t5 d5_7 (x := x1) rfl) <|
  Eq.trans (mx_aload_n t5 d5_8 (x := a2) rfl) <|
  (mx_virt (st := []) (k := 2) t5 [.int x1, .ref a2] d5_9 vt0_38 rfl rfl (Nat.le_of_ble_eq_true rfl) (Nat.le_of_ble_eq_true rfl) h0)
theorem b5_6_k3 {d : Nat} {S : mm_S} {a0 : Nat} {x1 : Int32} {a2 : Nat} (h0 : mm_rk S a0 = 3) : mm_ex (d + 1) 5 6 [.ref a0, .int x1, .ref a2] [] S =
    mm_bd (mm_cl d 4 [.ref a0, .int x1, .ref a2] S) (fun v S2 => mm_ex (d + 1) 5 12 [.ref a0, .int x1, .ref a2] (v.toList ++ []) S2) :=
  Eq.trans (mx_aload_n t5 d5_6 (x := a0) rfl) <|
  Eq.trans (mx_iload_n t5 d5_7 (x := x1) rfl) <|
  Eq.trans (mx_aload_n t5 d5_8 (x := a2) rfl) <|
  (mx_virt (st := []) (k := 3) t5 [.int x1, .ref a2] d5_9 vt0_38 rfl rfl (Nat.le_of_ble_eq_true rfl) (Nat.le_of_ble_eq_true rfl) h0)
theorem b5_6_k4 {d : Nat} {S : mm_S} {a0 : Nat} {x1 : Int32} {a2 : Nat} (h0 : mm_rk S a0 = 4) : mm_ex (d + 1) 5 6 [.ref a0, .int x1, .ref a2] [] S =
    mm_bd (mm_cl d 33 [.ref a0, .int x1, .ref a2] S) (fun v S2 => mm_ex (d + 1) 5 12 [.ref a0, .int x1, .ref a2] (v.toList ++ []) S2) :=
  Eq.trans (mx_aload_n t5 d5_6 (x := a0) rfl) <|
  Eq.trans (mx_iload_n t5 d5_7 (x := x1) rfl) <|
  Eq.trans (mx_aload_n t5 d5_8 (x := a2) rfl) <|
  (mx_virt (st := []) (k := 4) t5 [.int x1, .ref a2] d5_9 vt0_38 rfl rfl (Nat.le_of_ble_eq_true rfl) (Nat.le_of_ble_eq_true rfl) h0)
theorem b5_6_k7 {d : Nat} {S : mm_S} {a0 : Nat} {x1 : Int32} {a2 : Nat} (h0 : mm_rk S a0 = 7) : mm_ex (d + 1) 5 6 [.ref a0, .int x1, .ref a2] [] S =
    mm_bd (mm_cl d 58 [.ref a0, .int x1, .ref a2] S) (fun v S2 => mm_ex (d + 1) 5 12 [.ref a0, .int x1, .ref a2] (v.toList ++ []) S2) :=
  Eq.trans (mx_aload_n t5 d5_6 (x := a0) rfl) <|
  Eq.trans (mx_iload_n t5 d5_7 (x := x1) rfl) <|
  Eq.trans (mx_aload_n t5 d5_8 (x := a2) rfl) <|
  (mx_virt (st := []) (k := 7) t5 [.int x1, .ref a2] d5_9 vt0_38 rfl rfl (Nat.le_of_ble_eq_true rfl) (Nat.le_of_ble_eq_true rfl) h0)
theorem b5_6_k9 {d : Nat} {S : mm_S} {a0 : Nat} {x1 : Int32} {a2 : Nat} (h0 : mm_rk S a0 = 9) : mm_ex (d + 1) 5 6 [.ref a0, .int x1, .ref a2] [] S =
    mm_bd (mm_cl d 67 [.ref a0, .int x1, .ref a2] S) (fun v S2 => mm_ex (d + 1) 5 12 [.ref a0, .int x1, .ref a2] (v.toList ++ []) S2) :=
  Eq.trans (mx_aload_n t5 d5_6 (x := a0) rfl) <|
  Eq.trans (mx_iload_n t5 d5_7 (x := x1) rfl) <|
  Eq.trans (mx_aload_n t5 d5_8 (x := a2) rfl) <|
  (mx_virt (st := []) (k := 9) t5 [.int x1, .ref a2] d5_9 vt0_38 rfl rfl (Nat.le_of_ble_eq_true rfl) (Nat.le_of_ble_eq_true rfl) h0)
theorem b5_6_k10 {d : Nat} {S : mm_S} {a0 : Nat} {x1 : Int32} {a2 : Nat} (h0 : mm_rk S a0 = 10) : mm_ex (d + 1) 5 6 [.ref a0, .int x1, .ref a2] [] S =
    mm_bd (mm_cl d 4 [.ref a0, .int x1, .ref a2] S) (fun v S2 => mm_ex (d + 1) 5 12 [.ref a0, .int x1, .ref a2] (v.toList ++ []) S2) :=
  Eq.trans (mx_aload_n t5 d5_6 (x := a0) rfl) <|
  Eq.trans (mx_iload_n t5 d5_7 (x := x1) rfl) <|
  Eq.trans (mx_aload_n t5 d5_8 (x := a2) rfl) <|
  (mx_virt (st := []) (k := 10) t5 [.int x1, .ref a2] d5_9 vt0_38 rfl rfl (Nat.le_of_ble_eq_true rfl) (Nat.le_of_ble_eq_true rfl) h0)
theorem b5_12 {d : Nat} {S : mm_S} {a0 : Nat} {x1 : Int32} {a2 : Nat} {p0 : Int32} : mm_ex d 5 12 [.ref a0, .int x1, .ref a2] [.int p0] S =
    some (some (.int (p0 * (nI 2))), S) :=
  Eq.trans (mx_iconst t5 d5_12 (v := nI 2) rfl) <|
  Eq.trans (mx_imul t5 d5_13) <|
  (mx_iret t5 d5_14 (ty := .int) rfl rfl (fun h => nomatch h))
theorem e5 {d : Nat} {S : mm_S} {a0 : Nat} {x1 : Int32} {a2 : Nat} : mm_cl d 5 [.ref a0, .int x1, .ref a2] S = mm_ex d 5 0 [.ref a0, .int x1, .ref a2] [] S := mm_cl_eq t5 (Nat.le_of_ble_eq_true rfl) rfl
/-! X2_init -/
theorem d25_0 : decode prog_4_method_1_code 0 = .ok (.aload_n 0, 1) := by decide +kernel
theorem d25_1 : decode prog_4_method_1_code 1 = .ok (.iload_n 1, 1) := by decide +kernel
theorem d25_2 : decode prog_4_method_1_code 2 = .ok (.iload_n 2, 1) := by decide +kernel
theorem d25_3 : decode prog_4_method_1_code 3 = .ok (.iload_n 3, 1) := by decide +kernel
theorem d25_4 : decode prog_4_method_1_code 4 = .ok (.iload 4, 2) := by decide +kernel
theorem d25_6 : decode prog_4_method_1_code 6 = .ok (.invokespecial 3, 3) := by decide +kernel
theorem d25_9 : decode prog_4_method_1_code 9 = .ok (.return_, 1) := by decide +kernel
theorem b25_0 {d : Nat} {S : mm_S} {a0 : Nat} {x1 : Int32} {x2 : Int32} {x3 : Int32} {x4 : Int32} (h0 : (decide (a0 < mm_n S) && decide (mm_K S a0 < 13)) = true) : mm_ex (d + 1) 25 0 [.ref a0, .int x1, .int x2, .int x3, .int x4] [] S =
    mm_bd (mm_cl d 0 [.ref a0, .int x1, .int x2, .int x3, .int x4] S) (fun v S2 => mm_ex (d + 1) 25 9 [.ref a0, .int x1, .int x2, .int x3, .int x4] (v.toList ++ []) S2) :=
  Eq.trans (mx_aload_n t25 d25_0 (x := a0) rfl) <|
  Eq.trans (mx_iload_n t25 d25_1 (x := x1) rfl) <|
  Eq.trans (mx_iload_n t25 d25_2 (x := x2) rfl) <|
  Eq.trans (mx_iload_n t25 d25_3 (x := x3) rfl) <|
  Eq.trans (mx_iload t25 d25_4 (x := x4) rfl) <|
  (mx_spec (st := []) t25 [.int x1, .int x2, .int x3, .int x4] d25_6 oin2_3 sp2_3 rfl (Nat.le_of_ble_eq_true rfl) (Nat.le_of_ble_eq_true rfl) h0)
theorem b25_9 {d : Nat} {S : mm_S} {a0 : Nat} {x1 : Int32} {x2 : Int32} {x3 : Int32} {x4 : Int32} : mm_ex d 25 9 [.ref a0, .int x1, .int x2, .int x3, .int x4] [] S =
    some (none, S) :=
  (mx_vret t25 d25_9 rfl)
theorem e25 {d : Nat} {S : mm_S} {a0 : Nat} {x1 : Int32} {x2 : Int32} {x3 : Int32} {x4 : Int32} : mm_cl d 25 [.ref a0, .int x1, .int x2, .int x3, .int x4] S = mm_ex d 25 0 [.ref a0, .int x1, .int x2, .int x3, .int x4] [] S := mm_cl_eq t25 (Nat.le_of_ble_eq_true rfl) rfl
/-! X2_does -/
theorem d26_0 : decode prog_4_method_2_code 0 = .ok (.aload_n 1, 1) := by decide +kernel
theorem d26_1 : decode prog_4_method_2_code 1 = .ok (.getfield 9, 3) := by decide +kernel
theorem d26_4 : decode prog_4_method_2_code 4 = .ok (.aload_n 0, 1) := by decide +kernel
theorem d26_5 : decode prog_4_method_2_code 5 = .ok (.getfield 15, 3) := by decide +kernel
theorem d26_8 : decode prog_4_method_2_code 8 = .ok (.if_icmp .le 18, 3) := by decide +kernel
theorem d26_11 : decode prog_4_method_2_code 11 = .ok (.aload_n 1, 1) := by decide +kernel
theorem d26_12 : decode prog_4_method_2_code 12 = .ok (.aload_n 0, 1) := by decide +kernel
theorem d26_13 : decode prog_4_method_2_code 13 = .ok (.getfield 20, 3) := by decide +kernel
theorem d26_16 : decode prog_4_method_2_code 16 = .ok (.invokevirtual 23, 3) := by decide +kernel
theorem d26_19 : decode prog_4_method_2_code 19 = .ok (.ifCond .eq 7, 3) := by decide +kernel
theorem d26_22 : decode prog_4_method_2_code 22 = .ok (.iconst 2, 1) := by decide +kernel
theorem d26_23 : decode prog_4_method_2_code 23 = .ok (.goto 8, 3) := by decide +kernel
theorem d26_26 : decode prog_4_method_2_code 26 = .ok (.aload_n 0, 1) := by decide +kernel
theorem d26_27 : decode prog_4_method_2_code 27 = .ok (.aload_n 1, 1) := by decide +kernel
theorem d26_28 : decode prog_4_method_2_code 28 = .ok (.invokespecial 27, 3) := by decide +kernel
theorem d26_31 : decode prog_4_method_2_code 31 = .ok (.ireturn, 1) := by decide +kernel
theorem b26_0 {d : Nat} {S : mm_S} {a0 : Nat} {a1 : Nat} (h0 : mm_obj S a1 1 = true) (h1 : mm_obj S a0 0 = true) : mm_ex d 26 0 [.ref a0, .ref a1] [] S =
    if (mm_M S a1 12) ≤ (mm_M S a0 2) then mm_ex d 26 26 [.ref a0, .ref a1] [] S else mm_ex d 26 11 [.ref a0, .ref a1] [] S :=
  Eq.trans (mx_aload_n t26 d26_0 (x := a1) rfl) <|
  Eq.trans (mx_geti t26 d26_1 rfl fl2_9 h0) <|
  Eq.trans (mx_aload_n t26 d26_4 (x := a0) rfl) <|
  Eq.trans (mx_geti t26 d26_5 rfl fl2_15 h1) <|
  (mx_cle t26 d26_8 (tgt := 26) (by decide))
theorem b26_11 {d : Nat} {S : mm_S} {a0 : Nat} {a1 : Nat} (h0 : mm_obj S a0 0 = true) (h1 : mm_rk S a1 = 1) : mm_ex (d + 1) 26 11 [.ref a0, .ref a1] [] S =
    mm_bd (mm_cl d 17 [.ref a1, .int (mm_M S a0 1)] S) (fun v S2 => mm_ex (d + 1) 26 19 [.ref a0, .ref a1] (v.toList ++ []) S2) :=
  Eq.trans (mx_aload_n t26 d26_11 (x := a1) rfl) <|
  Eq.trans (mx_aload_n t26 d26_12 (x := a0) rfl) <|
  Eq.trans (mx_geti t26 d26_13 rfl fl2_20 h0) <|
  (mx_virt (st := []) (k := 1) t26 [.int (mm_M S a0 1)] d26_16 vt2_23 rfl rfl (Nat.le_of_ble_eq_true rfl) (Nat.le_of_ble_eq_true rfl) h1)
theorem b26_19 {d : Nat} {S : mm_S} {a0 : Nat} {a1 : Nat} {p0 : Int32} : mm_ex d 26 19 [.ref a0, .ref a1] [.int p0] S =
    if p0 = nI 0 then mm_ex d 26 26 [.ref a0, .ref a1] [] S else mm_ex d 26 22 [.ref a0, .ref a1] [] S :=
  (mx_ieq t26 d26_19 (tgt := 26) (by decide))
theorem b26_22 {d : Nat} {S : mm_S} {a0 : Nat} {a1 : Nat} : mm_ex d 26 22 [.ref a0, .ref a1] [] S =
    some (some (.int (nI 2)), S) :=
  Eq.trans (mx_iconst t26 d26_22 (v := nI 2) rfl) <|
  Eq.trans (mx_goto t26 d26_23 (tgt := 31) (by decide)) <|
  (mx_iret t26 d26_31 (ty := .int) rfl rfl (fun h => nomatch h))
theorem b26_26 {d : Nat} {S : mm_S} {a0 : Nat} {a1 : Nat} (h0 : (decide (a0 < mm_n S) && decide (mm_K S a0 < 13)) = true) : mm_ex (d + 1) 26 26 [.ref a0, .ref a1] [] S =
    mm_bd (mm_cl d 2 [.ref a0, .ref a1] S) (fun v S2 => mm_ex (d + 1) 26 31 [.ref a0, .ref a1] (v.toList ++ []) S2) :=
  Eq.trans (mx_aload_n t26 d26_26 (x := a0) rfl) <|
  Eq.trans (mx_aload_n t26 d26_27 (x := a1) rfl) <|
  (mx_spec (st := []) t26 [.ref a1] d26_28 oin2_27 sp2_27 rfl (Nat.le_of_ble_eq_true rfl) (Nat.le_of_ble_eq_true rfl) h0)
theorem b26_31 {d : Nat} {S : mm_S} {a0 : Nat} {a1 : Nat} {p0 : Int32} : mm_ex d 26 31 [.ref a0, .ref a1] [.int p0] S =
    some (some (.int p0), S) :=
  (mx_iret t26 d26_31 (ty := .int) rfl rfl (fun h => nomatch h))
theorem e26 {d : Nat} {S : mm_S} {a0 : Nat} {a1 : Nat} : mm_cl d 26 [.ref a0, .ref a1] S = mm_ex d 26 0 [.ref a0, .ref a1] [] S := mm_cl_eq t26 (Nat.le_of_ble_eq_true rfl) rfl
/-! X2_tells -/
theorem d27_0 : decode prog_4_method_3_code 0 = .ok (.aload_n 2, 1) := by decide +kernel
theorem d27_1 : decode prog_4_method_3_code 1 = .ok (.bipush 40, 2) := by decide +kernel
theorem d27_3 : decode prog_4_method_3_code 3 = .ok (.invokestatic 31, 3) := by decide +kernel
theorem d27_6 : decode prog_4_method_3_code 6 = .ok (.aload_n 0, 1) := by decide +kernel
theorem d27_7 : decode prog_4_method_3_code 7 = .ok (.iload_n 1, 1) := by decide +kernel
theorem d27_8 : decode prog_4_method_3_code 8 = .ok (.aload_n 2, 1) := by decide +kernel
theorem d27_9 : decode prog_4_method_3_code 9 = .ok (.invokespecial 35, 3) := by decide +kernel
theorem d27_12 : decode prog_4_method_3_code 12 = .ok (.aload_n 0, 1) := by decide +kernel
theorem d27_13 : decode prog_4_method_3_code 13 = .ok (.iconst 1, 1) := by decide +kernel
theorem d27_14 : decode prog_4_method_3_code 14 = .ok (.aload_n 2, 1) := by decide +kernel
theorem d27_15 : decode prog_4_method_3_code 15 = .ok (.invokevirtual 39, 3) := by decide +kernel
theorem d27_18 : decode prog_4_method_3_code 18 = .ok (.iadd, 1) := by decide +kernel
theorem d27_19 : decode prog_4_method_3_code 19 = .ok (.ireturn, 1) := by decide +kernel
theorem b27_0 {d : Nat} {S : mm_S} {a0 : Nat} {x1 : Int32} {a2 : Nat} : mm_ex (d + 1) 27 0 [.ref a0, .int x1, .ref a2] [] S =
    mm_bd (mm_cl d 1 [.ref a2, .int (nI 40)] S) (fun v S2 => mm_ex (d + 1) 27 6 [.ref a0, .int x1, .ref a2] (v.toList ++ []) S2) :=
  Eq.trans (mx_aload_n t27 d27_0 (x := a2) rfl) <|
  Eq.trans (mx_bipush t27 d27_1 (v := nI 40) rfl) <|
  (mx_stat (st := []) t27 [.ref a2, .int (nI 40)] d27_3 acn2_31 mxn2_31 st2_31 rfl (Nat.le_of_ble_eq_true rfl) (Nat.le_of_ble_eq_true rfl))
theorem b27_6 {d : Nat} {S : mm_S} {a0 : Nat} {x1 : Int32} {a2 : Nat} (h0 : (decide (a0 < mm_n S) && decide (mm_K S a0 < 13)) = true) : mm_ex (d + 1) 27 6 [.ref a0, .int x1, .ref a2] [] S =
    mm_bd (mm_cl d 5 [.ref a0, .int x1, .ref a2] S) (fun v S2 => mm_ex (d + 1) 27 12 [.ref a0, .int x1, .ref a2] (v.toList ++ []) S2) :=
  Eq.trans (mx_aload_n t27 d27_6 (x := a0) rfl) <|
  Eq.trans (mx_iload_n t27 d27_7 (x := x1) rfl) <|
  Eq.trans (mx_aload_n t27 d27_8 (x := a2) rfl) <|
  (mx_spec (st := []) t27 [.int x1, .ref a2] d27_9 oin2_35 sp2_35 rfl (Nat.le_of_ble_eq_true rfl) (Nat.le_of_ble_eq_true rfl) h0)
theorem b27_12_k2 {d : Nat} {S : mm_S} {a0 : Nat} {x1 : Int32} {a2 : Nat} {p0 : Int32} (h0 : mm_rk S a0 = 2) : mm_ex (d + 1) 27 12 [.ref a0, .int x1, .ref a2] [.int p0] S =
    mm_bd (mm_cl d 4 [.ref a0, .int (nI 1), .ref a2] S) (fun v S2 => mm_ex (d + 1) 27 18 [.ref a0, .int x1, .ref a2] (v.toList ++ [.int p0]) S2) :=
  Eq.trans (mx_aload_n t27 d27_12 (x := a0) rfl) <|
  Eq.trans (mx_iconst t27 d27_13 (v := nI 1) rfl) <|
  Eq.trans (mx_aload_n t27 d27_14 (x := a2) rfl) <|
  (mx_virt (st := [.int p0]) (k := 2) t27 [.int (nI 1), .ref a2] d27_15 vt2_39 rfl rfl (Nat.le_of_ble_eq_true rfl) (Nat.le_of_ble_eq_true rfl) h0)
theorem b27_12_k9 {d : Nat} {S : mm_S} {a0 : Nat} {x1 : Int32} {a2 : Nat} {p0 : Int32} (h0 : mm_rk S a0 = 9) : mm_ex (d + 1) 27 12 [.ref a0, .int x1, .ref a2] [.int p0] S =
    mm_bd (mm_cl d 67 [.ref a0, .int (nI 1), .ref a2] S) (fun v S2 => mm_ex (d + 1) 27 18 [.ref a0, .int x1, .ref a2] (v.toList ++ [.int p0]) S2) :=
  Eq.trans (mx_aload_n t27 d27_12 (x := a0) rfl) <|
  Eq.trans (mx_iconst t27 d27_13 (v := nI 1) rfl) <|
  Eq.trans (mx_aload_n t27 d27_14 (x := a2) rfl) <|
  (mx_virt (st := [.int p0]) (k := 9) t27 [.int (nI 1), .ref a2] d27_15 vt2_39 rfl rfl (Nat.le_of_ble_eq_true rfl) (Nat.le_of_ble_eq_true rfl) h0)
theorem b27_18 {d : Nat} {S : mm_S} {a0 : Nat} {x1 : Int32} {a2 : Nat} {p0 : Int32} {p1 : Int32} : mm_ex d 27 18 [.ref a0, .int x1, .ref a2] [.int p0, .int p1] S =
    some (some (.int (p1 + p0)), S) :=
  Eq.trans (mx_iadd t27 d27_18) <|
  (mx_iret t27 d27_19 (ty := .int) rfl rfl (fun h => nomatch h))
theorem e27 {d : Nat} {S : mm_S} {a0 : Nat} {x1 : Int32} {a2 : Nat} : mm_cl d 27 [.ref a0, .int x1, .ref a2] S = mm_ex d 27 0 [.ref a0, .int x1, .ref a2] [] S := mm_cl_eq t27 (Nat.le_of_ble_eq_true rfl) rfl
/-! X3_init -/
theorem d28_0 : decode prog_5_method_1_code 0 = .ok (.aload_n 0, 1) := by decide +kernel
theorem d28_1 : decode prog_5_method_1_code 1 = .ok (.iload_n 1, 1) := by decide +kernel
theorem d28_2 : decode prog_5_method_1_code 2 = .ok (.iload_n 2, 1) := by decide +kernel
theorem d28_3 : decode prog_5_method_1_code 3 = .ok (.iload_n 3, 1) := by decide +kernel
theorem d28_4 : decode prog_5_method_1_code 4 = .ok (.iload 4, 2) := by decide +kernel
theorem d28_6 : decode prog_5_method_1_code 6 = .ok (.invokespecial 3, 3) := by decide +kernel
theorem d28_9 : decode prog_5_method_1_code 9 = .ok (.return_, 1) := by decide +kernel
theorem b28_0 {d : Nat} {S : mm_S} {a0 : Nat} {x1 : Int32} {x2 : Int32} {x3 : Int32} {x4 : Int32} (h0 : (decide (a0 < mm_n S) && decide (mm_K S a0 < 13)) = true) : mm_ex (d + 1) 28 0 [.ref a0, .int x1, .int x2, .int x3, .int x4] [] S =
    mm_bd (mm_cl d 69 [.ref a0, .int x1, .int x2, .int x3, .int x4] S) (fun v S2 => mm_ex (d + 1) 28 9 [.ref a0, .int x1, .int x2, .int x3, .int x4] (v.toList ++ []) S2) :=
  Eq.trans (mx_aload_n t28 d28_0 (x := a0) rfl) <|
  Eq.trans (mx_iload_n t28 d28_1 (x := x1) rfl) <|
  Eq.trans (mx_iload_n t28 d28_2 (x := x2) rfl) <|
  Eq.trans (mx_iload_n t28 d28_3 (x := x3) rfl) <|
  Eq.trans (mx_iload t28 d28_4 (x := x4) rfl) <|
  (mx_spec (st := []) t28 [.int x1, .int x2, .int x3, .int x4] d28_6 oin3_3 sp3_3 rfl (Nat.le_of_ble_eq_true rfl) (Nat.le_of_ble_eq_true rfl) h0)
theorem b28_9 {d : Nat} {S : mm_S} {a0 : Nat} {x1 : Int32} {x2 : Int32} {x3 : Int32} {x4 : Int32} : mm_ex d 28 9 [.ref a0, .int x1, .int x2, .int x3, .int x4] [] S =
    some (none, S) :=
  (mx_vret t28 d28_9 rfl)
theorem e28 {d : Nat} {S : mm_S} {a0 : Nat} {x1 : Int32} {x2 : Int32} {x3 : Int32} {x4 : Int32} : mm_cl d 28 [.ref a0, .int x1, .int x2, .int x3, .int x4] S = mm_ex d 28 0 [.ref a0, .int x1, .int x2, .int x3, .int x4] [] S := mm_cl_eq t28 (Nat.le_of_ble_eq_true rfl) rfl
/-! X3_does -/
theorem d29_0 : decode prog_5_method_2_code 0 = .ok (.aload_n 1, 1) := by decide +kernel
theorem d29_1 : decode prog_5_method_2_code 1 = .ok (.getfield 9, 3) := by decide +kernel
theorem d29_4 : decode prog_5_method_2_code 4 = .ok (.iconst 1, 1) := by decide +kernel
theorem d29_5 : decode prog_5_method_2_code 5 = .ok (.isub, 1) := by decide +kernel
theorem d29_6 : decode prog_5_method_2_code 6 = .ok (.aload_n 0, 1) := by decide +kernel
theorem d29_7 : decode prog_5_method_2_code 7 = .ok (.getfield 15, 3) := by decide +kernel
theorem d29_10 : decode prog_5_method_2_code 10 = .ok (.if_icmp .lt 18, 3) := by decide +kernel
theorem d29_13 : decode prog_5_method_2_code 13 = .ok (.aload_n 1, 1) := by decide +kernel
theorem d29_14 : decode prog_5_method_2_code 14 = .ok (.aload_n 0, 1) := by decide +kernel
theorem d29_15 : decode prog_5_method_2_code 15 = .ok (.getfield 20, 3) := by decide +kernel
theorem d29_18 : decode prog_5_method_2_code 18 = .ok (.invokevirtual 23, 3) := by decide +kernel
theorem d29_21 : decode prog_5_method_2_code 21 = .ok (.ifCond .eq 7, 3) := by decide +kernel
theorem d29_24 : decode prog_5_method_2_code 24 = .ok (.iconst 3, 1) := by decide +kernel
theorem d29_25 : decode prog_5_method_2_code 25 = .ok (.goto 8, 3) := by decide +kernel
theorem d29_28 : decode prog_5_method_2_code 28 = .ok (.aload_n 0, 1) := by decide +kernel
theorem d29_29 : decode prog_5_method_2_code 29 = .ok (.aload_n 1, 1) := by decide +kernel
theorem d29_30 : decode prog_5_method_2_code 30 = .ok (.invokespecial 27, 3) := by decide +kernel
theorem d29_33 : decode prog_5_method_2_code 33 = .ok (.ireturn, 1) := by decide +kernel
theorem b29_0 {d : Nat} {S : mm_S} {a0 : Nat} {a1 : Nat} (h0 : mm_obj S a1 1 = true) (h1 : mm_obj S a0 0 = true) : mm_ex d 29 0 [.ref a0, .ref a1] [] S =
    if ((mm_M S a1 11) - (nI 1)) < (mm_M S a0 2) then mm_ex d 29 28 [.ref a0, .ref a1] [] S else mm_ex d 29 13 [.ref a0, .ref a1] [] S :=
  Eq.trans (mx_aload_n t29 d29_0 (x := a1) rfl) <|
  Eq.trans (mx_geti t29 d29_1 rfl fl3_9 h0) <|
  Eq.trans (mx_iconst t29 d29_4 (v := nI 1) rfl) <|
  Eq.trans (mx_isub t29 d29_5) <|
  Eq.trans (mx_aload_n t29 d29_6 (x := a0) rfl) <|
  Eq.trans (mx_geti t29 d29_7 rfl fl3_15 h1) <|
  (mx_clt t29 d29_10 (tgt := 28) (by decide))
theorem b29_13 {d : Nat} {S : mm_S} {a0 : Nat} {a1 : Nat} (h0 : mm_obj S a0 0 = true) (h1 : mm_rk S a1 = 1) : mm_ex (d + 1) 29 13 [.ref a0, .ref a1] [] S =
    mm_bd (mm_cl d 16 [.ref a1, .int (mm_M S a0 1)] S) (fun v S2 => mm_ex (d + 1) 29 21 [.ref a0, .ref a1] (v.toList ++ []) S2) :=
  Eq.trans (mx_aload_n t29 d29_13 (x := a1) rfl) <|
  Eq.trans (mx_aload_n t29 d29_14 (x := a0) rfl) <|
  Eq.trans (mx_geti t29 d29_15 rfl fl3_20 h0) <|
  (mx_virt (st := []) (k := 1) t29 [.int (mm_M S a0 1)] d29_18 vt3_23 rfl rfl (Nat.le_of_ble_eq_true rfl) (Nat.le_of_ble_eq_true rfl) h1)
theorem b29_21 {d : Nat} {S : mm_S} {a0 : Nat} {a1 : Nat} {p0 : Int32} : mm_ex d 29 21 [.ref a0, .ref a1] [.int p0] S =
    if p0 = nI 0 then mm_ex d 29 28 [.ref a0, .ref a1] [] S else mm_ex d 29 24 [.ref a0, .ref a1] [] S :=
  (mx_ieq t29 d29_21 (tgt := 28) (by decide))
theorem b29_24 {d : Nat} {S : mm_S} {a0 : Nat} {a1 : Nat} : mm_ex d 29 24 [.ref a0, .ref a1] [] S =
    some (some (.int (nI 3)), S) :=
  Eq.trans (mx_iconst t29 d29_24 (v := nI 3) rfl) <|
  Eq.trans (mx_goto t29 d29_25 (tgt := 33) (by decide)) <|
  (mx_iret t29 d29_33 (ty := .int) rfl rfl (fun h => nomatch h))
theorem b29_28 {d : Nat} {S : mm_S} {a0 : Nat} {a1 : Nat} (h0 : (decide (a0 < mm_n S) && decide (mm_K S a0 < 13)) = true) : mm_ex (d + 1) 29 28 [.ref a0, .ref a1] [] S =
    mm_bd (mm_cl d 70 [.ref a0, .ref a1] S) (fun v S2 => mm_ex (d + 1) 29 33 [.ref a0, .ref a1] (v.toList ++ []) S2) :=
  Eq.trans (mx_aload_n t29 d29_28 (x := a0) rfl) <|
  Eq.trans (mx_aload_n t29 d29_29 (x := a1) rfl) <|
  (mx_spec (st := []) t29 [.ref a1] d29_30 oin3_27 sp3_27 rfl (Nat.le_of_ble_eq_true rfl) (Nat.le_of_ble_eq_true rfl) h0)
theorem b29_33 {d : Nat} {S : mm_S} {a0 : Nat} {a1 : Nat} {p0 : Int32} : mm_ex d 29 33 [.ref a0, .ref a1] [.int p0] S =
    some (some (.int p0), S) :=
  (mx_iret t29 d29_33 (ty := .int) rfl rfl (fun h => nomatch h))
theorem e29 {d : Nat} {S : mm_S} {a0 : Nat} {a1 : Nat} : mm_cl d 29 [.ref a0, .ref a1] S = mm_ex d 29 0 [.ref a0, .ref a1] [] S := mm_cl_eq t29 (Nat.le_of_ble_eq_true rfl) rfl
/-! X3_tells -/
theorem d30_0 : decode prog_5_method_3_code 0 = .ok (.aload_n 2, 1) := by decide +kernel
theorem d30_1 : decode prog_5_method_3_code 1 = .ok (.bipush 60, 2) := by decide +kernel
theorem d30_3 : decode prog_5_method_3_code 3 = .ok (.invokestatic 31, 3) := by decide +kernel
theorem d30_6 : decode prog_5_method_3_code 6 = .ok (.aload_n 0, 1) := by decide +kernel
theorem d30_7 : decode prog_5_method_3_code 7 = .ok (.iload_n 1, 1) := by decide +kernel
theorem d30_8 : decode prog_5_method_3_code 8 = .ok (.aload_n 0, 1) := by decide +kernel
theorem d30_9 : decode prog_5_method_3_code 9 = .ok (.getfield 20, 3) := by decide +kernel
theorem d30_12 : decode prog_5_method_3_code 12 = .ok (.isub, 1) := by decide +kernel
theorem d30_13 : decode prog_5_method_3_code 13 = .ok (.aload_n 2, 1) := by decide +kernel
theorem d30_14 : decode prog_5_method_3_code 14 = .ok (.invokespecial 35, 3) := by decide +kernel
theorem d30_17 : decode prog_5_method_3_code 17 = .ok (.ireturn, 1) := by decide +kernel
theorem b30_0 {d : Nat} {S : mm_S} {a0 : Nat} {x1 : Int32} {a2 : Nat} : mm_ex (d + 1) 30 0 [.ref a0, .int x1, .ref a2] [] S =
    mm_bd (mm_cl d 1 [.ref a2, .int (nI 60)] S) (fun v S2 => mm_ex (d + 1) 30 6 [.ref a0, .int x1, .ref a2] (v.toList ++ []) S2) :=
  Eq.trans (mx_aload_n t30 d30_0 (x := a2) rfl) <|
  Eq.trans (mx_bipush t30 d30_1 (v := nI 60) rfl) <|
  (mx_stat (st := []) t30 [.ref a2, .int (nI 60)] d30_3 acn3_31 mxn3_31 st3_31 rfl (Nat.le_of_ble_eq_true rfl) (Nat.le_of_ble_eq_true rfl))
theorem b30_6 {d : Nat} {S : mm_S} {a0 : Nat} {x1 : Int32} {a2 : Nat} (h0 : mm_obj S a0 0 = true) (h1 : (decide (a0 < mm_n S) && decide (mm_K S a0 < 13)) = true) : mm_ex (d + 1) 30 6 [.ref a0, .int x1, .ref a2] [] S =
    mm_bd (mm_cl d 5 [.ref a0, .int (x1 - (mm_M S a0 1)), .ref a2] S) (fun v S2 => mm_ex (d + 1) 30 17 [.ref a0, .int x1, .ref a2] (v.toList ++ []) S2) :=
  Eq.trans (mx_aload_n t30 d30_6 (x := a0) rfl) <|
  Eq.trans (mx_iload_n t30 d30_7 (x := x1) rfl) <|
  Eq.trans (mx_aload_n t30 d30_8 (x := a0) rfl) <|
  Eq.trans (mx_geti t30 d30_9 rfl fl3_20 h0) <|
  Eq.trans (mx_isub t30 d30_12) <|
  Eq.trans (mx_aload_n t30 d30_13 (x := a2) rfl) <|
  (mx_spec (st := []) t30 [.int (x1 - (mm_M S a0 1)), .ref a2] d30_14 oin3_35 sp3_35 rfl (Nat.le_of_ble_eq_true rfl) (Nat.le_of_ble_eq_true rfl) h1)
theorem b30_17 {d : Nat} {S : mm_S} {a0 : Nat} {x1 : Int32} {a2 : Nat} {p0 : Int32} : mm_ex d 30 17 [.ref a0, .int x1, .ref a2] [.int p0] S =
    some (some (.int p0), S) :=
  (mx_iret t30 d30_17 (ty := .int) rfl rfl (fun h => nomatch h))
theorem e30 {d : Nat} {S : mm_S} {a0 : Nat} {x1 : Int32} {a2 : Nat} : mm_cl d 30 [.ref a0, .int x1, .ref a2] S = mm_ex d 30 0 [.ref a0, .int x1, .ref a2] [] S := mm_cl_eq t30 (Nat.le_of_ble_eq_true rfl) rfl
/-! X4_init -/
theorem d31_0 : decode prog_6_method_1_code 0 = .ok (.aload_n 0, 1) := by decide +kernel
theorem d31_1 : decode prog_6_method_1_code 1 = .ok (.iload_n 1, 1) := by decide +kernel
theorem d31_2 : decode prog_6_method_1_code 2 = .ok (.iload_n 2, 1) := by decide +kernel
theorem d31_3 : decode prog_6_method_1_code 3 = .ok (.iload_n 3, 1) := by decide +kernel
theorem d31_4 : decode prog_6_method_1_code 4 = .ok (.iload 4, 2) := by decide +kernel
theorem d31_6 : decode prog_6_method_1_code 6 = .ok (.invokespecial 3, 3) := by decide +kernel
theorem d31_9 : decode prog_6_method_1_code 9 = .ok (.return_, 1) := by decide +kernel
theorem b31_0 {d : Nat} {S : mm_S} {a0 : Nat} {x1 : Int32} {x2 : Int32} {x3 : Int32} {x4 : Int32} (h0 : (decide (a0 < mm_n S) && decide (mm_K S a0 < 13)) = true) : mm_ex (d + 1) 31 0 [.ref a0, .int x1, .int x2, .int x3, .int x4] [] S =
    mm_bd (mm_cl d 0 [.ref a0, .int x1, .int x2, .int x3, .int x4] S) (fun v S2 => mm_ex (d + 1) 31 9 [.ref a0, .int x1, .int x2, .int x3, .int x4] (v.toList ++ []) S2) :=
  Eq.trans (mx_aload_n t31 d31_0 (x := a0) rfl) <|
  Eq.trans (mx_iload_n t31 d31_1 (x := x1) rfl) <|
  Eq.trans (mx_iload_n t31 d31_2 (x := x2) rfl) <|
  Eq.trans (mx_iload_n t31 d31_3 (x := x3) rfl) <|
  Eq.trans (mx_iload t31 d31_4 (x := x4) rfl) <|
  (mx_spec (st := []) t31 [.int x1, .int x2, .int x3, .int x4] d31_6 oin4_3 sp4_3 rfl (Nat.le_of_ble_eq_true rfl) (Nat.le_of_ble_eq_true rfl) h0)
theorem b31_9 {d : Nat} {S : mm_S} {a0 : Nat} {x1 : Int32} {x2 : Int32} {x3 : Int32} {x4 : Int32} : mm_ex d 31 9 [.ref a0, .int x1, .int x2, .int x3, .int x4] [] S =
    some (none, S) :=
  (mx_vret t31 d31_9 rfl)
theorem e31 {d : Nat} {S : mm_S} {a0 : Nat} {x1 : Int32} {x2 : Int32} {x3 : Int32} {x4 : Int32} : mm_cl d 31 [.ref a0, .int x1, .int x2, .int x3, .int x4] S = mm_ex d 31 0 [.ref a0, .int x1, .int x2, .int x3, .int x4] [] S := mm_cl_eq t31 (Nat.le_of_ble_eq_true rfl) rfl
/-! X4_does -/
theorem d32_0 : decode prog_6_method_2_code 0 = .ok (.aload_n 1, 1) := by decide +kernel
theorem d32_1 : decode prog_6_method_2_code 1 = .ok (.invokevirtual 9, 3) := by decide +kernel
theorem d32_4 : decode prog_6_method_2_code 4 = .ok (.aload_n 0, 1) := by decide +kernel
theorem d32_5 : decode prog_6_method_2_code 5 = .ok (.getfield 15, 3) := by decide +kernel
theorem d32_8 : decode prog_6_method_2_code 8 = .ok (.if_icmp .lt 7, 3) := by decide +kernel
theorem d32_11 : decode prog_6_method_2_code 11 = .ok (.iconst 1, 1) := by decide +kernel
theorem d32_12 : decode prog_6_method_2_code 12 = .ok (.goto 4, 3) := by decide +kernel
theorem d32_15 : decode prog_6_method_2_code 15 = .ok (.iconst 2, 1) := by decide +kernel
theorem d32_16 : decode prog_6_method_2_code 16 = .ok (.ireturn, 1) := by decide +kernel
theorem b32_0 {d : Nat} {S : mm_S} {a0 : Nat} {a1 : Nat} (h0 : mm_rk S a1 = 1) : mm_ex (d + 1) 32 0 [.ref a0, .ref a1] [] S =
    mm_bd (mm_cl d 18 [.ref a1] S) (fun v S2 => mm_ex (d + 1) 32 4 [.ref a0, .ref a1] (v.toList ++ []) S2) :=
  Eq.trans (mx_aload_n t32 d32_0 (x := a1) rfl) <|
  (mx_virt (st := []) (k := 1) t32 [] d32_1 vt4_9 rfl rfl (Nat.le_of_ble_eq_true rfl) (Nat.le_of_ble_eq_true rfl) h0)
theorem b32_4 {d : Nat} {S : mm_S} {a0 : Nat} {a1 : Nat} {p0 : Int32} (h0 : mm_obj S a0 0 = true) : mm_ex d 32 4 [.ref a0, .ref a1] [.int p0] S =
    if p0 < (mm_M S a0 2) then mm_ex d 32 15 [.ref a0, .ref a1] [] S else mm_ex d 32 11 [.ref a0, .ref a1] [] S :=
  Eq.trans (mx_aload_n t32 d32_4 (x := a0) rfl) <|
  Eq.trans (mx_geti t32 d32_5 rfl fl4_15 h0) <|
  (mx_clt t32 d32_8 (tgt := 15) (by decide))
theorem b32_11 {d : Nat} {S : mm_S} {a0 : Nat} {a1 : Nat} : mm_ex d 32 11 [.ref a0, .ref a1] [] S =
    some (some (.int (nI 1)), S) :=
  Eq.trans (mx_iconst t32 d32_11 (v := nI 1) rfl) <|
  Eq.trans (mx_goto t32 d32_12 (tgt := 16) (by decide)) <|
  (mx_iret t32 d32_16 (ty := .int) rfl rfl (fun h => nomatch h))
theorem b32_15 {d : Nat} {S : mm_S} {a0 : Nat} {a1 : Nat} : mm_ex d 32 15 [.ref a0, .ref a1] [] S =
    some (some (.int (nI 2)), S) :=
  Eq.trans (mx_iconst t32 d32_15 (v := nI 2) rfl) <|
  (mx_iret t32 d32_16 (ty := .int) rfl rfl (fun h => nomatch h))
theorem e32 {d : Nat} {S : mm_S} {a0 : Nat} {a1 : Nat} : mm_cl d 32 [.ref a0, .ref a1] S = mm_ex d 32 0 [.ref a0, .ref a1] [] S := mm_cl_eq t32 (Nat.le_of_ble_eq_true rfl) rfl
/-! X4_waits -/
theorem d33_0 : decode prog_6_method_3_code 0 = .ok (.aload_n 2, 1) := by decide +kernel
theorem d33_1 : decode prog_6_method_3_code 1 = .ok (.bipush 20, 2) := by decide +kernel
theorem d33_3 : decode prog_6_method_3_code 3 = .ok (.invokestatic 21, 3) := by decide +kernel
theorem d33_6 : decode prog_6_method_3_code 6 = .ok (.aload_n 0, 1) := by decide +kernel
theorem d33_7 : decode prog_6_method_3_code 7 = .ok (.iload_n 1, 1) := by decide +kernel
theorem d33_8 : decode prog_6_method_3_code 8 = .ok (.aload_n 2, 1) := by decide +kernel
theorem d33_9 : decode prog_6_method_3_code 9 = .ok (.invokespecial 25, 3) := by decide +kernel
theorem d33_12 : decode prog_6_method_3_code 12 = .ok (.bipush 6, 2) := by decide +kernel
theorem d33_14 : decode prog_6_method_3_code 14 = .ok (.ixor, 1) := by decide +kernel
theorem d33_15 : decode prog_6_method_3_code 15 = .ok (.ireturn, 1) := by decide +kernel
theorem b33_0 {d : Nat} {S : mm_S} {a0 : Nat} {x1 : Int32} {a2 : Nat} : mm_ex (d + 1) 33 0 [.ref a0, .int x1, .ref a2] [] S =
    mm_bd (mm_cl d 1 [.ref a2, .int (nI 20)] S) (fun v S2 => mm_ex (d + 1) 33 6 [.ref a0, .int x1, .ref a2] (v.toList ++ []) S2) :=
  Eq.trans (mx_aload_n t33 d33_0 (x := a2) rfl) <|
  Eq.trans (mx_bipush t33 d33_1 (v := nI 20) rfl) <|
  (mx_stat (st := []) t33 [.ref a2, .int (nI 20)] d33_3 acn4_21 mxn4_21 st4_21 rfl (Nat.le_of_ble_eq_true rfl) (Nat.le_of_ble_eq_true rfl))
theorem b33_6 {d : Nat} {S : mm_S} {a0 : Nat} {x1 : Int32} {a2 : Nat} (h0 : (decide (a0 < mm_n S) && decide (mm_K S a0 < 13)) = true) : mm_ex (d + 1) 33 6 [.ref a0, .int x1, .ref a2] [] S =
    mm_bd (mm_cl d 4 [.ref a0, .int x1, .ref a2] S) (fun v S2 => mm_ex (d + 1) 33 12 [.ref a0, .int x1, .ref a2] (v.toList ++ []) S2) :=
  Eq.trans (mx_aload_n t33 d33_6 (x := a0) rfl) <|
  Eq.trans (mx_iload_n t33 d33_7 (x := x1) rfl) <|
  Eq.trans (mx_aload_n t33 d33_8 (x := a2) rfl) <|
  (mx_spec (st := []) t33 [.int x1, .ref a2] d33_9 oin4_25 sp4_25 rfl (Nat.le_of_ble_eq_true rfl) (Nat.le_of_ble_eq_true rfl) h0)
theorem b33_12 {d : Nat} {S : mm_S} {a0 : Nat} {x1 : Int32} {a2 : Nat} {p0 : Int32} : mm_ex d 33 12 [.ref a0, .int x1, .ref a2] [.int p0] S =
    some (some (.int (p0 ^^^ (nI 6))), S) :=
  Eq.trans (mx_bipush t33 d33_12 (v := nI 6) rfl) <|
  Eq.trans (mx_ixor t33 d33_14) <|
  (mx_iret t33 d33_15 (ty := .int) rfl rfl (fun h => nomatch h))
theorem e33 {d : Nat} {S : mm_S} {a0 : Nat} {x1 : Int32} {a2 : Nat} : mm_cl d 33 [.ref a0, .int x1, .ref a2] S = mm_ex d 33 0 [.ref a0, .int x1, .ref a2] [] S := mm_cl_eq t33 (Nat.le_of_ble_eq_true rfl) rfl
/-! X7_init -/
theorem d55_0 : decode prog_9_method_1_code 0 = .ok (.aload_n 0, 1) := by decide +kernel
theorem d55_1 : decode prog_9_method_1_code 1 = .ok (.iload_n 1, 1) := by decide +kernel
theorem d55_2 : decode prog_9_method_1_code 2 = .ok (.iload_n 2, 1) := by decide +kernel
theorem d55_3 : decode prog_9_method_1_code 3 = .ok (.iload_n 3, 1) := by decide +kernel
theorem d55_4 : decode prog_9_method_1_code 4 = .ok (.iload 4, 2) := by decide +kernel
theorem d55_6 : decode prog_9_method_1_code 6 = .ok (.invokespecial 3, 3) := by decide +kernel
theorem d55_9 : decode prog_9_method_1_code 9 = .ok (.return_, 1) := by decide +kernel
theorem b55_0 {d : Nat} {S : mm_S} {a0 : Nat} {x1 : Int32} {x2 : Int32} {x3 : Int32} {x4 : Int32} (h0 : (decide (a0 < mm_n S) && decide (mm_K S a0 < 13)) = true) : mm_ex (d + 1) 55 0 [.ref a0, .int x1, .int x2, .int x3, .int x4] [] S =
    mm_bd (mm_cl d 31 [.ref a0, .int x1, .int x2, .int x3, .int x4] S) (fun v S2 => mm_ex (d + 1) 55 9 [.ref a0, .int x1, .int x2, .int x3, .int x4] (v.toList ++ []) S2) :=
  Eq.trans (mx_aload_n t55 d55_0 (x := a0) rfl) <|
  Eq.trans (mx_iload_n t55 d55_1 (x := x1) rfl) <|
  Eq.trans (mx_iload_n t55 d55_2 (x := x2) rfl) <|
  Eq.trans (mx_iload_n t55 d55_3 (x := x3) rfl) <|
  Eq.trans (mx_iload t55 d55_4 (x := x4) rfl) <|
  (mx_spec (st := []) t55 [.int x1, .int x2, .int x3, .int x4] d55_6 oin7_3 sp7_3 rfl (Nat.le_of_ble_eq_true rfl) (Nat.le_of_ble_eq_true rfl) h0)
theorem b55_9 {d : Nat} {S : mm_S} {a0 : Nat} {x1 : Int32} {x2 : Int32} {x3 : Int32} {x4 : Int32} : mm_ex d 55 9 [.ref a0, .int x1, .int x2, .int x3, .int x4] [] S =
    some (none, S) :=
  (mx_vret t55 d55_9 rfl)
theorem e55 {d : Nat} {S : mm_S} {a0 : Nat} {x1 : Int32} {x2 : Int32} {x3 : Int32} {x4 : Int32} : mm_cl d 55 [.ref a0, .int x1, .int x2, .int x3, .int x4] S = mm_ex d 55 0 [.ref a0, .int x1, .int x2, .int x3, .int x4] [] S := mm_cl_eq t55 (Nat.le_of_ble_eq_true rfl) rfl
/-! X7_does -/
theorem d56_0 : decode prog_9_method_2_code 0 = .ok (.aload_n 1, 1) := by decide +kernel
theorem d56_1 : decode prog_9_method_2_code 1 = .ok (.getfield 9, 3) := by decide +kernel
theorem d56_4 : decode prog_9_method_2_code 4 = .ok (.aload_n 0, 1) := by decide +kernel
theorem d56_5 : decode prog_9_method_2_code 5 = .ok (.getfield 15, 3) := by decide +kernel
theorem d56_8 : decode prog_9_method_2_code 8 = .ok (.if_icmp .gt 7, 3) := by decide +kernel
theorem d56_11 : decode prog_9_method_2_code 11 = .ok (.iconst 1, 1) := by decide +kernel
theorem d56_12 : decode prog_9_method_2_code 12 = .ok (.goto 8, 3) := by decide +kernel
theorem d56_15 : decode prog_9_method_2_code 15 = .ok (.aload_n 0, 1) := by decide +kernel
theorem d56_16 : decode prog_9_method_2_code 16 = .ok (.aload_n 1, 1) := by decide +kernel
theorem d56_17 : decode prog_9_method_2_code 17 = .ok (.invokespecial 20, 3) := by decide +kernel
theorem d56_20 : decode prog_9_method_2_code 20 = .ok (.ireturn, 1) := by decide +kernel
theorem b56_0 {d : Nat} {S : mm_S} {a0 : Nat} {a1 : Nat} (h0 : mm_obj S a1 1 = true) (h1 : mm_obj S a0 0 = true) : mm_ex d 56 0 [.ref a0, .ref a1] [] S =
    if (mm_M S a0 2) < (mm_M S a1 13) then mm_ex d 56 15 [.ref a0, .ref a1] [] S else mm_ex d 56 11 [.ref a0, .ref a1] [] S :=
  Eq.trans (mx_aload_n t56 d56_0 (x := a1) rfl) <|
  Eq.trans (mx_geti t56 d56_1 rfl fl7_9 h0) <|
  Eq.trans (mx_aload_n t56 d56_4 (x := a0) rfl) <|
  Eq.trans (mx_geti t56 d56_5 rfl fl7_15 h1) <|
  (mx_cgt t56 d56_8 (tgt := 15) (by decide))
theorem b56_11 {d : Nat} {S : mm_S} {a0 : Nat} {a1 : Nat} : mm_ex d 56 11 [.ref a0, .ref a1] [] S =
    some (some (.int (nI 1)), S) :=
  Eq.trans (mx_iconst t56 d56_11 (v := nI 1) rfl) <|
  Eq.trans (mx_goto t56 d56_12 (tgt := 20) (by decide)) <|
  (mx_iret t56 d56_20 (ty := .int) rfl rfl (fun h => nomatch h))
theorem b56_15 {d : Nat} {S : mm_S} {a0 : Nat} {a1 : Nat} (h0 : (decide (a0 < mm_n S) && decide (mm_K S a0 < 13)) = true) : mm_ex (d + 1) 56 15 [.ref a0, .ref a1] [] S =
    mm_bd (mm_cl d 32 [.ref a0, .ref a1] S) (fun v S2 => mm_ex (d + 1) 56 20 [.ref a0, .ref a1] (v.toList ++ []) S2) :=
  Eq.trans (mx_aload_n t56 d56_15 (x := a0) rfl) <|
  Eq.trans (mx_aload_n t56 d56_16 (x := a1) rfl) <|
  (mx_spec (st := []) t56 [.ref a1] d56_17 oin7_20 sp7_20 rfl (Nat.le_of_ble_eq_true rfl) (Nat.le_of_ble_eq_true rfl) h0)
theorem b56_20 {d : Nat} {S : mm_S} {a0 : Nat} {a1 : Nat} {p0 : Int32} : mm_ex d 56 20 [.ref a0, .ref a1] [.int p0] S =
    some (some (.int p0), S) :=
  (mx_iret t56 d56_20 (ty := .int) rfl rfl (fun h => nomatch h))
theorem e56 {d : Nat} {S : mm_S} {a0 : Nat} {a1 : Nat} : mm_cl d 56 [.ref a0, .ref a1] S = mm_ex d 56 0 [.ref a0, .ref a1] [] S := mm_cl_eq t56 (Nat.le_of_ble_eq_true rfl) rfl
/-! X7_bids -/
theorem d57_0 : decode prog_9_method_3_code 0 = .ok (.aload_n 2, 1) := by decide +kernel
theorem d57_1 : decode prog_9_method_3_code 1 = .ok (.bipush 50, 2) := by decide +kernel
theorem d57_3 : decode prog_9_method_3_code 3 = .ok (.invokestatic 24, 3) := by decide +kernel
theorem d57_6 : decode prog_9_method_3_code 6 = .ok (.aload_n 0, 1) := by decide +kernel
theorem d57_7 : decode prog_9_method_3_code 7 = .ok (.iload_n 1, 1) := by decide +kernel
theorem d57_8 : decode prog_9_method_3_code 8 = .ok (.aload_n 2, 1) := by decide +kernel
theorem d57_9 : decode prog_9_method_3_code 9 = .ok (.invokespecial 28, 3) := by decide +kernel
theorem d57_12 : decode prog_9_method_3_code 12 = .ok (.ineg, 1) := by decide +kernel
theorem d57_13 : decode prog_9_method_3_code 13 = .ok (.ireturn, 1) := by decide +kernel
theorem b57_0 {d : Nat} {S : mm_S} {a0 : Nat} {x1 : Int32} {a2 : Nat} : mm_ex (d + 1) 57 0 [.ref a0, .int x1, .ref a2] [] S =
    mm_bd (mm_cl d 1 [.ref a2, .int (nI 50)] S) (fun v S2 => mm_ex (d + 1) 57 6 [.ref a0, .int x1, .ref a2] (v.toList ++ []) S2) :=
  Eq.trans (mx_aload_n t57 d57_0 (x := a2) rfl) <|
  Eq.trans (mx_bipush t57 d57_1 (v := nI 50) rfl) <|
  (mx_stat (st := []) t57 [.ref a2, .int (nI 50)] d57_3 acn7_24 mxn7_24 st7_24 rfl (Nat.le_of_ble_eq_true rfl) (Nat.le_of_ble_eq_true rfl))
theorem b57_6 {d : Nat} {S : mm_S} {a0 : Nat} {x1 : Int32} {a2 : Nat} (h0 : (decide (a0 < mm_n S) && decide (mm_K S a0 < 13)) = true) : mm_ex (d + 1) 57 6 [.ref a0, .int x1, .ref a2] [] S =
    mm_bd (mm_cl d 3 [.ref a0, .int x1, .ref a2] S) (fun v S2 => mm_ex (d + 1) 57 12 [.ref a0, .int x1, .ref a2] (v.toList ++ []) S2) :=
  Eq.trans (mx_aload_n t57 d57_6 (x := a0) rfl) <|
  Eq.trans (mx_iload_n t57 d57_7 (x := x1) rfl) <|
  Eq.trans (mx_aload_n t57 d57_8 (x := a2) rfl) <|
  (mx_spec (st := []) t57 [.int x1, .ref a2] d57_9 oin7_28 sp7_28 rfl (Nat.le_of_ble_eq_true rfl) (Nat.le_of_ble_eq_true rfl) h0)
theorem b57_12 {d : Nat} {S : mm_S} {a0 : Nat} {x1 : Int32} {a2 : Nat} {p0 : Int32} : mm_ex d 57 12 [.ref a0, .int x1, .ref a2] [.int p0] S =
    some (some (.int (-p0)), S) :=
  Eq.trans (mx_ineg t57 d57_12) <|
  (mx_iret t57 d57_13 (ty := .int) rfl rfl (fun h => nomatch h))
theorem e57 {d : Nat} {S : mm_S} {a0 : Nat} {x1 : Int32} {a2 : Nat} : mm_cl d 57 [.ref a0, .int x1, .ref a2] S = mm_ex d 57 0 [.ref a0, .int x1, .ref a2] [] S := mm_cl_eq t57 (Nat.le_of_ble_eq_true rfl) rfl
/-! X7_waits -/
theorem d58_0 : decode prog_9_method_4_code 0 = .ok (.aload_n 2, 1) := by decide +kernel
theorem d58_1 : decode prog_9_method_4_code 1 = .ok (.bipush 51, 2) := by decide +kernel
theorem d58_3 : decode prog_9_method_4_code 3 = .ok (.invokestatic 24, 3) := by decide +kernel
theorem d58_6 : decode prog_9_method_4_code 6 = .ok (.aload_n 0, 1) := by decide +kernel
theorem d58_7 : decode prog_9_method_4_code 7 = .ok (.iload_n 1, 1) := by decide +kernel
theorem d58_8 : decode prog_9_method_4_code 8 = .ok (.iconst 1, 1) := by decide +kernel
theorem d58_9 : decode prog_9_method_4_code 9 = .ok (.iadd, 1) := by decide +kernel
theorem d58_10 : decode prog_9_method_4_code 10 = .ok (.aload_n 2, 1) := by decide +kernel
theorem d58_11 : decode prog_9_method_4_code 11 = .ok (.invokespecial 32, 3) := by decide +kernel
theorem d58_14 : decode prog_9_method_4_code 14 = .ok (.ireturn, 1) := by decide +kernel
theorem b58_0 {d : Nat} {S : mm_S} {a0 : Nat} {x1 : Int32} {a2 : Nat} : mm_ex (d + 1) 58 0 [.ref a0, .int x1, .ref a2] [] S =
    mm_bd (mm_cl d 1 [.ref a2, .int (nI 51)] S) (fun v S2 => mm_ex (d + 1) 58 6 [.ref a0, .int x1, .ref a2] (v.toList ++ []) S2) :=
  Eq.trans (mx_aload_n t58 d58_0 (x := a2) rfl) <|
  Eq.trans (mx_bipush t58 d58_1 (v := nI 51) rfl) <|
  (mx_stat (st := []) t58 [.ref a2, .int (nI 51)] d58_3 acn7_24 mxn7_24 st7_24 rfl (Nat.le_of_ble_eq_true rfl) (Nat.le_of_ble_eq_true rfl))
theorem b58_6 {d : Nat} {S : mm_S} {a0 : Nat} {x1 : Int32} {a2 : Nat} (h0 : (decide (a0 < mm_n S) && decide (mm_K S a0 < 13)) = true) : mm_ex (d + 1) 58 6 [.ref a0, .int x1, .ref a2] [] S =
    mm_bd (mm_cl d 33 [.ref a0, .int (x1 + (nI 1)), .ref a2] S) (fun v S2 => mm_ex (d + 1) 58 14 [.ref a0, .int x1, .ref a2] (v.toList ++ []) S2) :=
  Eq.trans (mx_aload_n t58 d58_6 (x := a0) rfl) <|
  Eq.trans (mx_iload_n t58 d58_7 (x := x1) rfl) <|
  Eq.trans (mx_iconst t58 d58_8 (v := nI 1) rfl) <|
  Eq.trans (mx_iadd t58 d58_9) <|
  Eq.trans (mx_aload_n t58 d58_10 (x := a2) rfl) <|
  (mx_spec (st := []) t58 [.int (x1 + (nI 1)), .ref a2] d58_11 oin7_32 sp7_32 rfl (Nat.le_of_ble_eq_true rfl) (Nat.le_of_ble_eq_true rfl) h0)
theorem b58_14 {d : Nat} {S : mm_S} {a0 : Nat} {x1 : Int32} {a2 : Nat} {p0 : Int32} : mm_ex d 58 14 [.ref a0, .int x1, .ref a2] [.int p0] S =
    some (some (.int p0), S) :=
  (mx_iret t58 d58_14 (ty := .int) rfl rfl (fun h => nomatch h))
theorem e58 {d : Nat} {S : mm_S} {a0 : Nat} {x1 : Int32} {a2 : Nat} : mm_cl d 58 [.ref a0, .int x1, .ref a2] S = mm_ex d 58 0 [.ref a0, .int x1, .ref a2] [] S := mm_cl_eq t58 (Nat.le_of_ble_eq_true rfl) rfl
/-! X8_init -/
theorem d59_0 : decode prog_10_method_1_code 0 = .ok (.aload_n 0, 1) := by decide +kernel
theorem d59_1 : decode prog_10_method_1_code 1 = .ok (.invokespecial 1, 3) := by decide +kernel
theorem d59_4 : decode prog_10_method_1_code 4 = .ok (.aload_n 0, 1) := by decide +kernel
theorem d59_5 : decode prog_10_method_1_code 5 = .ok (.bipush 60, 2) := by decide +kernel
theorem d59_7 : decode prog_10_method_1_code 7 = .ok (.newarray .long, 2) := by decide +kernel
theorem d59_9 : decode prog_10_method_1_code 9 = .ok (.putfield 9, 3) := by decide +kernel
theorem d59_12 : decode prog_10_method_1_code 12 = .ok (.aload_n 0, 1) := by decide +kernel
theorem d59_13 : decode prog_10_method_1_code 13 = .ok (.iconst (-1), 1) := by decide +kernel
theorem d59_14 : decode prog_10_method_1_code 14 = .ok (.putfield 13, 3) := by decide +kernel
theorem d59_17 : decode prog_10_method_1_code 17 = .ok (.return_, 1) := by decide +kernel
theorem b59_0 {d : Nat} {S : mm_S} {a0 : Nat} (h0 : (!decide (nI 60 < 0) && decide ((nI 60).toNatClampNeg ≤ 1000) && decide (mm_n S < 1000000)) = true) : mm_ex (d + 1) 59 0 [.ref a0] [] S =
    mm_ex (d + 1) 59 9 [.ref a0] [.ref (mm_n S), .ref a0] (mm_nw S 14 (nI 60).toNatClampNeg) :=
  Eq.trans (mx_aload_n t59 d59_0 (x := a0) rfl) <|
  Eq.trans (mx_oinit t59 d59_1 oi8_1 (Nat.le_of_ble_eq_true rfl)) <|
  Eq.trans (mx_aload_n t59 d59_4 (x := a0) rfl) <|
  Eq.trans (mx_bipush t59 d59_5 (v := nI 60) rfl) <|
  (mx_newj t59 d59_7 h0)
theorem b59_9 {d : Nat} {S : mm_S} {a0 : Nat} {p0 : Nat} {p1 : Nat} (h0 : mm_obj S p1 8 = true) (h1 : p0 < mm_n S) (h2 : mm_obj S a0 8 = true) : mm_ex d 59 9 [.ref a0] [.ref p0, .ref p1] S =
    some (none, (mm_uM (mm_uR S p1 0 (some p0)) a0 1 (-1))) :=
  Eq.trans (mx_putr2 t59 d59_9 fl8_9 rfl h0 h1) <|
  Eq.trans (mx_aload_n t59 d59_12 (x := a0) rfl) <|
  Eq.trans (mx_iconst t59 d59_13 (v := -1) rfl) <|
  Eq.trans (mx_puti2 t59 d59_14 fl8_13 rfl h2) <|
  (mx_vret t59 d59_17 rfl)
theorem e59 {d : Nat} {S : mm_S} {a0 : Nat} : mm_cl d 59 [.ref a0] S = mm_ex d 59 0 [.ref a0] [] S := mm_cl_eq t59 (Nat.le_of_ble_eq_true rfl) rfl
/-! X8_become -/
theorem d60_0 : decode prog_10_method_2_code 0 = .ok (.aload_n 0, 1) := by decide +kernel
theorem d60_1 : decode prog_10_method_2_code 1 = .ok (.iload_n 1, 1) := by decide +kernel
theorem d60_2 : decode prog_10_method_2_code 2 = .ok (.putfield 13, 3) := by decide +kernel
theorem d60_5 : decode prog_10_method_2_code 5 = .ok (.aload_n 0, 1) := by decide +kernel
theorem d60_6 : decode prog_10_method_2_code 6 = .ok (.iload_n 2, 1) := by decide +kernel
theorem d60_7 : decode prog_10_method_2_code 7 = .ok (.putfield 17, 3) := by decide +kernel
theorem d60_10 : decode prog_10_method_2_code 10 = .ok (.iconst 0, 1) := by decide +kernel
theorem d60_11 : decode prog_10_method_2_code 11 = .ok (.istore_n 3, 1) := by decide +kernel
theorem d60_12 : decode prog_10_method_2_code 12 = .ok (.iload_n 3, 1) := by decide +kernel
theorem d60_13 : decode prog_10_method_2_code 13 = .ok (.bipush 60, 2) := by decide +kernel
theorem d60_15 : decode prog_10_method_2_code 15 = .ok (.if_icmp .ge 16, 3) := by decide +kernel
theorem d60_18 : decode prog_10_method_2_code 18 = .ok (.aload_n 0, 1) := by decide +kernel
theorem d60_19 : decode prog_10_method_2_code 19 = .ok (.getfield 9, 3) := by decide +kernel
theorem d60_22 : decode prog_10_method_2_code 22 = .ok (.iload_n 3, 1) := by decide +kernel
theorem d60_23 : decode prog_10_method_2_code 23 = .ok (.lconst 0, 1) := by decide +kernel
theorem d60_24 : decode prog_10_method_2_code 24 = .ok (.lastore, 1) := by decide +kernel
theorem d60_25 : decode prog_10_method_2_code 25 = .ok (.iinc 3 1, 3) := by decide +kernel
theorem d60_28 : decode prog_10_method_2_code 28 = .ok (.goto (-16), 3) := by decide +kernel
theorem d60_31 : decode prog_10_method_2_code 31 = .ok (.return_, 1) := by decide +kernel
theorem b60_0 {d : Nat} {S : mm_S} {a0 : Nat} {x1 : Int32} {x2 : Int32} (h0 : mm_obj S a0 8 = true) : mm_ex d 60 0 [.ref a0, .int x1, .int x2, .null] [] S =
    mm_ex d 60 12 [.ref a0, .int x1, .int x2, .int (nI 0)] [] (mm_uM (mm_uM S a0 1 x1) a0 2 x2) :=
  Eq.trans (mx_aload_n t60 d60_0 (x := a0) rfl) <|
  Eq.trans (mx_iload_n t60 d60_1 (x := x1) rfl) <|
  Eq.trans (mx_puti2 t60 d60_2 fl8_13 rfl h0) <|
  Eq.trans (mx_aload_n t60 d60_5 (x := a0) rfl) <|
  Eq.trans (mx_iload_n t60 d60_6 (x := x2) rfl) <|
  Eq.trans (mx_puti2 t60 d60_7 fl8_17 rfl h0) <|
  Eq.trans (mx_iconst t60 d60_10 (v := nI 0) rfl) <|
  (mx_istore_n t60 d60_11 (ls' := [.ref a0, .int x1, .int x2, .int (nI 0)]) rfl rfl)
theorem b60_12 {d : Nat} {S : mm_S} {a0 : Nat} {x1 : Int32} {x2 : Int32} {x3 : Int32} : mm_ex d 60 12 [.ref a0, .int x1, .int x2, .int x3] [] S =
    if (nI 60) ≤ x3 then mm_ex d 60 31 [.ref a0, .int x1, .int x2, .int x3] [] S else mm_ex d 60 18 [.ref a0, .int x1, .int x2, .int x3] [] S :=
  Eq.trans (mx_iload_n t60 d60_12 (x := x3) rfl) <|
  Eq.trans (mx_bipush t60 d60_13 (v := nI 60) rfl) <|
  (mx_cge t60 d60_15 (tgt := 31) (by decide))
theorem b60_18 {d : Nat} {S : mm_S} {a0 : Nat} {x1 : Int32} {x2 : Int32} {x3 : Int32} (h0 : mm_obj S a0 8 = true) (h1 : (mm_R S a0 0).isSome = true) (h2 : mm_arr S (mm_rg S a0 0) 14 = true) (h3 : mm_inb x3 (mm_N S (mm_rg S a0 0)) = true) : mm_ex d 60 18 [.ref a0, .int x1, .int x2, .int x3] [] S =
    mm_ex d 60 12 [.ref a0, .int x1, .int x2, .int (x3 + nI 1)] [] (mm_uL S (mm_rg S a0 0) (x3).toNatClampNeg 0) :=
  Eq.trans (mx_aload_n t60 d60_18 (x := a0) rfl) <|
  Eq.trans (mx_getR t60 d60_19 rfl fl8_9 h0 h1) <|
  Eq.trans (mx_iload_n t60 d60_22 (x := x3) rfl) <|
  Eq.trans (mx_lconst t60 d60_23 (v := 0) rfl) <|
  Eq.trans (mx_last2 t60 d60_24 h2 h3) <|
  Eq.trans (mx_iinc t60 d60_25 (x := x3) (v := nI 1) (ls' := [.ref a0, .int x1, .int x2, .int (x3 + nI 1)]) rfl rfl rfl rfl) <|
  (mx_goto t60 d60_28 (tgt := 12) (by decide))
theorem b60_31 {d : Nat} {S : mm_S} {a0 : Nat} {x1 : Int32} {x2 : Int32} {x3 : Int32} : mm_ex d 60 31 [.ref a0, .int x1, .int x2, .int x3] [] S =
    some (none, S) :=
  (mx_vret t60 d60_31 rfl)
theorem e60 {d : Nat} {S : mm_S} {a0 : Nat} {x1 : Int32} {x2 : Int32} : mm_cl d 60 [.ref a0, .int x1, .int x2] S = mm_ex d 60 0 [.ref a0, .int x1, .int x2, .null] [] S := mm_cl_eq t60 (Nat.le_of_ble_eq_true rfl) rfl
/-! X8_holdsNothing -/
theorem d61_0 : decode prog_10_method_3_code 0 = .ok (.aload_n 0, 1) := by decide +kernel
theorem d61_1 : decode prog_10_method_3_code 1 = .ok (.getfield 13, 3) := by decide +kernel
theorem d61_4 : decode prog_10_method_3_code 4 = .ok (.iconst (-1), 1) := by decide +kernel
theorem d61_5 : decode prog_10_method_3_code 5 = .ok (.if_icmp .ne 7, 3) := by decide +kernel
theorem d61_8 : decode prog_10_method_3_code 8 = .ok (.iconst 1, 1) := by decide +kernel
theorem d61_9 : decode prog_10_method_3_code 9 = .ok (.goto 4, 3) := by decide +kernel
theorem d61_12 : decode prog_10_method_3_code 12 = .ok (.iconst 0, 1) := by decide +kernel
theorem d61_13 : decode prog_10_method_3_code 13 = .ok (.ireturn, 1) := by decide +kernel
theorem b61_0 {d : Nat} {S : mm_S} {a0 : Nat} (h0 : mm_obj S a0 8 = true) : mm_ex d 61 0 [.ref a0] [] S =
    if (mm_M S a0 1) = (-1) then mm_ex d 61 8 [.ref a0] [] S else mm_ex d 61 12 [.ref a0] [] S :=
  Eq.trans (mx_aload_n t61 d61_0 (x := a0) rfl) <|
  Eq.trans (mx_geti t61 d61_1 rfl fl8_13 h0) <|
  Eq.trans (mx_iconst t61 d61_4 (v := -1) rfl) <|
  (mx_cne t61 d61_5 (tgt := 12) (by decide))
theorem b61_8 {d : Nat} {S : mm_S} {a0 : Nat} : mm_ex d 61 8 [.ref a0] [] S =
    some (some (.int (nI 1)), S) :=
  Eq.trans (mx_iconst t61 d61_8 (v := nI 1) rfl) <|
  Eq.trans (mx_goto t61 d61_9 (tgt := 13) (by decide)) <|
  (mx_iret t61 d61_13 (ty := .boolean) rfl rfl (fun h => nomatch h))
theorem b61_12 {d : Nat} {S : mm_S} {a0 : Nat} : mm_ex d 61 12 [.ref a0] [] S =
    some (some (.int (nI 0)), S) :=
  Eq.trans (mx_iconst t61 d61_12 (v := nI 0) rfl) <|
  (mx_iret t61 d61_13 (ty := .boolean) rfl rfl (fun h => nomatch h))
theorem e61 {d : Nat} {S : mm_S} {a0 : Nat} : mm_cl d 61 [.ref a0] S = mm_ex d 61 0 [.ref a0] [] S := mm_cl_eq t61 (Nat.le_of_ble_eq_true rfl) rfl
/-! X8_hasPlace -/
theorem d62_0 : decode prog_10_method_4_code 0 = .ok (.iload_n 1, 1) := by decide +kernel
theorem d62_1 : decode prog_10_method_4_code 1 = .ok (.ifCond .lt 15, 3) := by decide +kernel
theorem d62_4 : decode prog_10_method_4_code 4 = .ok (.iload_n 1, 1) := by decide +kernel
theorem d62_5 : decode prog_10_method_4_code 5 = .ok (.aload_n 0, 1) := by decide +kernel
theorem d62_6 : decode prog_10_method_4_code 6 = .ok (.getfield 17, 3) := by decide +kernel
theorem d62_9 : decode prog_10_method_4_code 9 = .ok (.if_icmp .ge 7, 3) := by decide +kernel
theorem d62_12 : decode prog_10_method_4_code 12 = .ok (.iconst 1, 1) := by decide +kernel
theorem d62_13 : decode prog_10_method_4_code 13 = .ok (.goto 4, 3) := by decide +kernel
theorem d62_16 : decode prog_10_method_4_code 16 = .ok (.iconst 0, 1) := by decide +kernel
theorem d62_17 : decode prog_10_method_4_code 17 = .ok (.ireturn, 1) := by decide +kernel
theorem b62_0 {d : Nat} {S : mm_S} {a0 : Nat} {x1 : Int32} : mm_ex d 62 0 [.ref a0, .int x1] [] S =
    if x1 < nI 0 then mm_ex d 62 16 [.ref a0, .int x1] [] S else mm_ex d 62 4 [.ref a0, .int x1] [] S :=
  Eq.trans (mx_iload_n t62 d62_0 (x := x1) rfl) <|
  (mx_ilt t62 d62_1 (tgt := 16) (by decide))
theorem b62_4 {d : Nat} {S : mm_S} {a0 : Nat} {x1 : Int32} (h0 : mm_obj S a0 8 = true) : mm_ex d 62 4 [.ref a0, .int x1] [] S =
    if (mm_M S a0 2) ≤ x1 then mm_ex d 62 16 [.ref a0, .int x1] [] S else mm_ex d 62 12 [.ref a0, .int x1] [] S :=
  Eq.trans (mx_iload_n t62 d62_4 (x := x1) rfl) <|
  Eq.trans (mx_aload_n t62 d62_5 (x := a0) rfl) <|
  Eq.trans (mx_geti t62 d62_6 rfl fl8_17 h0) <|
  (mx_cge t62 d62_9 (tgt := 16) (by decide))
theorem b62_12 {d : Nat} {S : mm_S} {a0 : Nat} {x1 : Int32} : mm_ex d 62 12 [.ref a0, .int x1] [] S =
    some (some (.int (nI 1)), S) :=
  Eq.trans (mx_iconst t62 d62_12 (v := nI 1) rfl) <|
  Eq.trans (mx_goto t62 d62_13 (tgt := 17) (by decide)) <|
  (mx_iret t62 d62_17 (ty := .boolean) rfl rfl (fun h => nomatch h))
theorem b62_16 {d : Nat} {S : mm_S} {a0 : Nat} {x1 : Int32} : mm_ex d 62 16 [.ref a0, .int x1] [] S =
    some (some (.int (nI 0)), S) :=
  Eq.trans (mx_iconst t62 d62_16 (v := nI 0) rfl) <|
  (mx_iret t62 d62_17 (ty := .boolean) rfl rfl (fun h => nomatch h))
theorem e62 {d : Nat} {S : mm_S} {a0 : Nat} {x1 : Int32} : mm_cl d 62 [.ref a0, .int x1] S = mm_ex d 62 0 [.ref a0, .int x1] [] S := mm_cl_eq t62 (Nat.le_of_ble_eq_true rfl) rfl
/-! X8_hasStretch -/
theorem d63_0 : decode prog_10_method_5_code 0 = .ok (.iload_n 2, 1) := by decide +kernel
theorem d63_1 : decode prog_10_method_5_code 1 = .ok (.ifCond .lt 29, 3) := by decide +kernel
theorem d63_4 : decode prog_10_method_5_code 4 = .ok (.iload_n 1, 1) := by decide +kernel
theorem d63_5 : decode prog_10_method_5_code 5 = .ok (.ifCond .lt 25, 3) := by decide +kernel
theorem d63_8 : decode prog_10_method_5_code 8 = .ok (.iload_n 2, 1) := by decide +kernel
theorem d63_9 : decode prog_10_method_5_code 9 = .ok (.aload_n 0, 1) := by decide +kernel
theorem d63_10 : decode prog_10_method_5_code 10 = .ok (.getfield 17, 3) := by decide +kernel
theorem d63_13 : decode prog_10_method_5_code 13 = .ok (.if_icmp .gt 17, 3) := by decide +kernel
theorem d63_16 : decode prog_10_method_5_code 16 = .ok (.iload_n 1, 1) := by decide +kernel
theorem d63_17 : decode prog_10_method_5_code 17 = .ok (.aload_n 0, 1) := by decide +kernel
theorem d63_18 : decode prog_10_method_5_code 18 = .ok (.getfield 17, 3) := by decide +kernel
theorem d63_21 : decode prog_10_method_5_code 21 = .ok (.iload_n 2, 1) := by decide +kernel
theorem d63_22 : decode prog_10_method_5_code 22 = .ok (.isub, 1) := by decide +kernel
theorem d63_23 : decode prog_10_method_5_code 23 = .ok (.if_icmp .gt 7, 3) := by decide +kernel
theorem d63_26 : decode prog_10_method_5_code 26 = .ok (.iconst 1, 1) := by decide +kernel
theorem d63_27 : decode prog_10_method_5_code 27 = .ok (.goto 4, 3) := by decide +kernel
theorem d63_30 : decode prog_10_method_5_code 30 = .ok (.iconst 0, 1) := by decide +kernel
theorem d63_31 : decode prog_10_method_5_code 31 = .ok (.ireturn, 1) := by decide +kernel
theorem b63_0 {d : Nat} {S : mm_S} {a0 : Nat} {x1 : Int32} {x2 : Int32} : mm_ex d 63 0 [.ref a0, .int x1, .int x2] [] S =
    if x2 < nI 0 then mm_ex d 63 30 [.ref a0, .int x1, .int x2] [] S else mm_ex d 63 4 [.ref a0, .int x1, .int x2] [] S :=
  Eq.trans (mx_iload_n t63 d63_0 (x := x2) rfl) <|
  (mx_ilt t63 d63_1 (tgt := 30) (by decide))
theorem b63_4 {d : Nat} {S : mm_S} {a0 : Nat} {x1 : Int32} {x2 : Int32} : mm_ex d 63 4 [.ref a0, .int x1, .int x2] [] S =
    if x1 < nI 0 then mm_ex d 63 30 [.ref a0, .int x1, .int x2] [] S else mm_ex d 63 8 [.ref a0, .int x1, .int x2] [] S :=
  Eq.trans (mx_iload_n t63 d63_4 (x := x1) rfl) <|
  (mx_ilt t63 d63_5 (tgt := 30) (by decide))
theorem b63_8 {d : Nat} {S : mm_S} {a0 : Nat} {x1 : Int32} {x2 : Int32} (h0 : mm_obj S a0 8 = true) : mm_ex d 63 8 [.ref a0, .int x1, .int x2] [] S =
    if (mm_M S a0 2) < x2 then mm_ex d 63 30 [.ref a0, .int x1, .int x2] [] S else mm_ex d 63 16 [.ref a0, .int x1, .int x2] [] S :=
  Eq.trans (mx_iload_n t63 d63_8 (x := x2) rfl) <|
  Eq.trans (mx_aload_n t63 d63_9 (x := a0) rfl) <|
  Eq.trans (mx_geti t63 d63_10 rfl fl8_17 h0) <|
  (mx_cgt t63 d63_13 (tgt := 30) (by decide))
theorem b63_16 {d : Nat} {S : mm_S} {a0 : Nat} {x1 : Int32} {x2 : Int32} (h0 : mm_obj S a0 8 = true) : mm_ex d 63 16 [.ref a0, .int x1, .int x2] [] S =
    if ((mm_M S a0 2) - x2) < x1 then mm_ex d 63 30 [.ref a0, .int x1, .int x2] [] S else mm_ex d 63 26 [.ref a0, .int x1, .int x2] [] S :=
  Eq.trans (mx_iload_n t63 d63_16 (x := x1) rfl) <|
  Eq.trans (mx_aload_n t63 d63_17 (x := a0) rfl) <|
  Eq.trans (mx_geti t63 d63_18 rfl fl8_17 h0) <|
  Eq.trans (mx_iload_n t63 d63_21 (x := x2) rfl) <|
  Eq.trans (mx_isub t63 d63_22) <|
  (mx_cgt t63 d63_23 (tgt := 30) (by decide))
theorem b63_26 {d : Nat} {S : mm_S} {a0 : Nat} {x1 : Int32} {x2 : Int32} : mm_ex d 63 26 [.ref a0, .int x1, .int x2] [] S =
    some (some (.int (nI 1)), S) :=
  Eq.trans (mx_iconst t63 d63_26 (v := nI 1) rfl) <|
  Eq.trans (mx_goto t63 d63_27 (tgt := 31) (by decide)) <|
  (mx_iret t63 d63_31 (ty := .boolean) rfl rfl (fun h => nomatch h))
theorem b63_30 {d : Nat} {S : mm_S} {a0 : Nat} {x1 : Int32} {x2 : Int32} : mm_ex d 63 30 [.ref a0, .int x1, .int x2] [] S =
    some (some (.int (nI 0)), S) :=
  Eq.trans (mx_iconst t63 d63_30 (v := nI 0) rfl) <|
  (mx_iret t63 d63_31 (ty := .boolean) rfl rfl (fun h => nomatch h))
theorem e63 {d : Nat} {S : mm_S} {a0 : Nat} {x1 : Int32} {x2 : Int32} : mm_cl d 63 [.ref a0, .int x1, .int x2] S = mm_ex d 63 0 [.ref a0, .int x1, .int x2] [] S := mm_cl_eq t63 (Nat.le_of_ble_eq_true rfl) rfl
/-! X8_narrowed -/
theorem dd64_0 : (decode prog_10_method_6_code 0 = .ok (.aload_n 0, 1)) ∧ (decode prog_10_method_6_code 1 = .ok (.getfield 13, 3)) ∧ (decode prog_10_method_6_code 4 = .ok (.tableswitch 62 0 4 #[36, 41, 46, 62, 50], 36)) ∧ (decode prog_10_method_6_code 40 = .ok (.lload_n 1, 1)) ∧ (decode prog_10_method_6_code 41 = .ok (.l2i, 1)) ∧ (decode prog_10_method_6_code 42 = .ok (.i2b, 1)) ∧ (decode prog_10_method_6_code 43 = .ok (.i2l, 1)) ∧ (decode prog_10_method_6_code 44 = .ok (.lreturn, 1)) ∧ (decode prog_10_method_6_code 45 = .ok (.lload_n 1, 1)) ∧ (decode prog_10_method_6_code 46 = .ok (.l2i, 1)) ∧ (decode prog_10_method_6_code 47 = .ok (.i2s, 1)) ∧ (decode prog_10_method_6_code 48 = .ok (.i2l, 1)) ∧ (decode prog_10_method_6_code 49 = .ok (.lreturn, 1)) ∧ (decode prog_10_method_6_code 50 = .ok (.lload_n 1, 1)) ∧ (decode prog_10_method_6_code 51 = .ok (.l2i, 1)) ∧ (decode prog_10_method_6_code 52 = .ok (.i2l, 1)) := by decide +kernel
theorem d64_0 : decode prog_10_method_6_code 0 = .ok (.aload_n 0, 1) := dd64_0.1
theorem d64_1 : decode prog_10_method_6_code 1 = .ok (.getfield 13, 3) := dd64_0.2.1
theorem d64_4 : decode prog_10_method_6_code 4 = .ok (.tableswitch 62 0 4 #[36, 41, 46, 62, 50], 36) := dd64_0.2.2.1
theorem d64_40 : decode prog_10_method_6_code 40 = .ok (.lload_n 1, 1) := dd64_0.2.2.2.1
theorem d64_41 : decode prog_10_method_6_code 41 = .ok (.l2i, 1) := dd64_0.2.2.2.2.1
theorem d64_42 : decode prog_10_method_6_code 42 = .ok (.i2b, 1) := dd64_0.2.2.2.2.2.1
theorem d64_43 : decode prog_10_method_6_code 43 = .ok (.i2l, 1) := dd64_0.2.2.2.2.2.2.1
theorem d64_44 : decode prog_10_method_6_code 44 = .ok (.lreturn, 1) := dd64_0.2.2.2.2.2.2.2.1
theorem d64_45 : decode prog_10_method_6_code 45 = .ok (.lload_n 1, 1) := dd64_0.2.2.2.2.2.2.2.2.1
theorem d64_46 : decode prog_10_method_6_code 46 = .ok (.l2i, 1) := dd64_0.2.2.2.2.2.2.2.2.2.1
theorem d64_47 : decode prog_10_method_6_code 47 = .ok (.i2s, 1) := dd64_0.2.2.2.2.2.2.2.2.2.2.1
theorem d64_48 : decode prog_10_method_6_code 48 = .ok (.i2l, 1) := dd64_0.2.2.2.2.2.2.2.2.2.2.2.1
theorem d64_49 : decode prog_10_method_6_code 49 = .ok (.lreturn, 1) := dd64_0.2.2.2.2.2.2.2.2.2.2.2.2.1
theorem d64_50 : decode prog_10_method_6_code 50 = .ok (.lload_n 1, 1) := dd64_0.2.2.2.2.2.2.2.2.2.2.2.2.2.1
theorem d64_51 : decode prog_10_method_6_code 51 = .ok (.l2i, 1) := dd64_0.2.2.2.2.2.2.2.2.2.2.2.2.2.2.1
theorem d64_52 : decode prog_10_method_6_code 52 = .ok (.i2l, 1) := dd64_0.2.2.2.2.2.2.2.2.2.2.2.2.2.2.2
theorem dd64_53 : (decode prog_10_method_6_code 53 = .ok (.lreturn, 1)) ∧ (decode prog_10_method_6_code 54 = .ok (.lload_n 1, 1)) ∧ (decode prog_10_method_6_code 55 = .ok (.lconst 0, 1)) ∧ (decode prog_10_method_6_code 56 = .ok (.lcmp, 1)) ∧ (decode prog_10_method_6_code 57 = .ok (.ifCond .eq 7, 3)) ∧ (decode prog_10_method_6_code 60 = .ok (.lconst 1, 1)) ∧ (decode prog_10_method_6_code 61 = .ok (.goto 4, 3)) ∧ (decode prog_10_method_6_code 64 = .ok (.lconst 0, 1)) ∧ (decode prog_10_method_6_code 65 = .ok (.lreturn, 1)) ∧ (decode prog_10_method_6_code 66 = .ok (.lload_n 1, 1)) ∧ (decode prog_10_method_6_code 67 = .ok (.lreturn, 1)) := by decide +kernel
theorem d64_53 : decode prog_10_method_6_code 53 = .ok (.lreturn, 1) := dd64_53.1
theorem d64_54 : decode prog_10_method_6_code 54 = .ok (.lload_n 1, 1) := dd64_53.2.1
theorem d64_55 : decode prog_10_method_6_code 55 = .ok (.lconst 0, 1) := dd64_53.2.2.1
theorem d64_56 : decode prog_10_method_6_code 56 = .ok (.lcmp, 1) := dd64_53.2.2.2.1
theorem d64_57 : decode prog_10_method_6_code 57 = .ok (.ifCond .eq 7, 3) := dd64_53.2.2.2.2.1
theorem d64_60 : decode prog_10_method_6_code 60 = .ok (.lconst 1, 1) := dd64_53.2.2.2.2.2.1
theorem d64_61 : decode prog_10_method_6_code 61 = .ok (.goto 4, 3) := dd64_53.2.2.2.2.2.2.1
theorem d64_64 : decode prog_10_method_6_code 64 = .ok (.lconst 0, 1) := dd64_53.2.2.2.2.2.2.2.1
theorem d64_65 : decode prog_10_method_6_code 65 = .ok (.lreturn, 1) := dd64_53.2.2.2.2.2.2.2.2.1
theorem d64_66 : decode prog_10_method_6_code 66 = .ok (.lload_n 1, 1) := dd64_53.2.2.2.2.2.2.2.2.2.1
theorem d64_67 : decode prog_10_method_6_code 67 = .ok (.lreturn, 1) := dd64_53.2.2.2.2.2.2.2.2.2.2
theorem b64_0 {d : Nat} {S : mm_S} {a0 : Nat} {j1 : Int64} (h0 : mm_obj S a0 8 = true) : mm_ex d 64 0 [.ref a0, .long j1, .null] [] S =
    mm_ex d 64 4 [.ref a0, .long j1, .null] [.int (mm_M S a0 1)] S :=
  Eq.trans (mx_aload_n t64 d64_0 (x := a0) rfl) <|
  (mx_geti t64 d64_1 rfl fl8_13 h0)
theorem b64_4 {d : Nat} {S : mm_S} {a0 : Nat} {j1 : Int64} {p0 : Int32} : mm_ex d 64 4 [.ref a0, .long j1, .null] [.int p0] S =
    if p0 = nI 0 then mm_ex d 64 40 [.ref a0, .long j1, .null] [] S else if p0 = nI 1 then mm_ex d 64 45 [.ref a0, .long j1, .null] [] S else if p0 = nI 2 then mm_ex d 64 50 [.ref a0, .long j1, .null] [] S else if p0 = nI 4 then mm_ex d 64 54 [.ref a0, .long j1, .null] [] S else mm_ex d 64 66 [.ref a0, .long j1, .null] [] S := by
  by_cases e0 : p0 = nI 0
  · subst e0
    rw [if_pos rfl]
    exact mx_tswI t64 d64_4 (by decide) (off := 36) (by decide) (by decide)
  by_cases e1 : p0 = nI 1
  · subst e1
    rw [if_neg (by decide), if_pos rfl]
    exact mx_tswI t64 d64_4 (by decide) (off := 41) (by decide) (by decide)
  by_cases e2 : p0 = nI 2
  · subst e2
    rw [if_neg (by decide), if_neg (by decide), if_pos rfl]
    exact mx_tswI t64 d64_4 (by decide) (off := 46) (by decide) (by decide)
  by_cases e3 : p0 = nI 4
  · subst e3
    rw [if_neg (by decide), if_neg (by decide), if_neg (by decide), if_pos rfl]
    exact mx_tswI t64 d64_4 (by decide) (off := 50) (by decide) (by decide)
  rw [if_neg e0, if_neg e1, if_neg e2, if_neg e3]
  by_cases f0 : p0 = nI 3
  · subst f0
    exact mx_tswI t64 d64_4 (by decide) (off := 62) (by decide) (by decide)
  have g0 := mm_ni32 e0
  have g1 := mm_ni32 e1
  have g2 := mm_ni32 e2
  have g3 := mm_ni32 e3
  have k0 := mm_ni32 f0
  rw [show (nI 0 : Int32).toInt = 0 by decide] at g0
  rw [show (nI 1 : Int32).toInt = 1 by decide] at g1
  rw [show (nI 2 : Int32).toInt = 2 by decide] at g2
  rw [show (nI 4 : Int32).toInt = 4 by decide] at g3
  rw [show (nI 3 : Int32).toInt = 3 by decide] at k0
  exact mx_tswD t64 d64_4 (by omega) (by decide)
theorem b64_40 {d : Nat} {S : mm_S} {a0 : Nat} {j1 : Int64} : mm_ex d 64 40 [.ref a0, .long j1, .null] [] S =
    some (some (.long j1.toInt32.toInt8.toInt32.toInt64), S) :=
  Eq.trans (mx_lload_n t64 d64_40 (x := j1) rfl) <|
  Eq.trans (mx_l2i t64 d64_41) <|
  Eq.trans (mx_i2b t64 d64_42) <|
  Eq.trans (mx_i2l t64 d64_43) <|
  (mx_lret t64 d64_44 rfl)
theorem b64_45 {d : Nat} {S : mm_S} {a0 : Nat} {j1 : Int64} : mm_ex d 64 45 [.ref a0, .long j1, .null] [] S =
    some (some (.long j1.toInt32.toInt16.toInt32.toInt64), S) :=
  Eq.trans (mx_lload_n t64 d64_45 (x := j1) rfl) <|
  Eq.trans (mx_l2i t64 d64_46) <|
  Eq.trans (mx_i2s t64 d64_47) <|
  Eq.trans (mx_i2l t64 d64_48) <|
  (mx_lret t64 d64_49 rfl)
theorem b64_50 {d : Nat} {S : mm_S} {a0 : Nat} {j1 : Int64} : mm_ex d 64 50 [.ref a0, .long j1, .null] [] S =
    some (some (.long j1.toInt32.toInt64), S) :=
  Eq.trans (mx_lload_n t64 d64_50 (x := j1) rfl) <|
  Eq.trans (mx_l2i t64 d64_51) <|
  Eq.trans (mx_i2l t64 d64_52) <|
  (mx_lret t64 d64_53 rfl)
theorem b64_54 {d : Nat} {S : mm_S} {a0 : Nat} {j1 : Int64} : mm_ex d 64 54 [.ref a0, .long j1, .null] [] S =
    if (lg_cmp j1 0) = nI 0 then mm_ex d 64 64 [.ref a0, .long j1, .null] [] S else mm_ex d 64 60 [.ref a0, .long j1, .null] [] S :=
  Eq.trans (mx_lload_n t64 d64_54 (x := j1) rfl) <|
  Eq.trans (mx_lconst t64 d64_55 (v := 0) rfl) <|
  Eq.trans (mx_lcmp t64 d64_56) <|
  (mx_ieq t64 d64_57 (tgt := 64) (by decide))
theorem b64_60 {d : Nat} {S : mm_S} {a0 : Nat} {j1 : Int64} : mm_ex d 64 60 [.ref a0, .long j1, .null] [] S =
    some (some (.long 1), S) :=
  Eq.trans (mx_lconst t64 d64_60 (v := 1) rfl) <|
  Eq.trans (mx_goto t64 d64_61 (tgt := 65) (by decide)) <|
  (mx_lret t64 d64_65 rfl)
theorem b64_64 {d : Nat} {S : mm_S} {a0 : Nat} {j1 : Int64} : mm_ex d 64 64 [.ref a0, .long j1, .null] [] S =
    some (some (.long 0), S) :=
  Eq.trans (mx_lconst t64 d64_64 (v := 0) rfl) <|
  (mx_lret t64 d64_65 rfl)
theorem b64_66 {d : Nat} {S : mm_S} {a0 : Nat} {j1 : Int64} : mm_ex d 64 66 [.ref a0, .long j1, .null] [] S =
    some (some (.long j1), S) :=
  Eq.trans (mx_lload_n t64 d64_66 (x := j1) rfl) <|
  (mx_lret t64 d64_67 rfl)
theorem e64 {d : Nat} {S : mm_S} {a0 : Nat} {j1 : Int64} : mm_cl d 64 [.ref a0, .long j1] S = mm_ex d 64 0 [.ref a0, .long j1, .null] [] S := mm_cl_eq t64 (Nat.le_of_ble_eq_true rfl) rfl
/-! X9_init -/
theorem d65_0 : decode prog_11_method_1_code 0 = .ok (.aload_n 0, 1) := by decide +kernel
theorem d65_1 : decode prog_11_method_1_code 1 = .ok (.iload_n 1, 1) := by decide +kernel
theorem d65_2 : decode prog_11_method_1_code 2 = .ok (.iload_n 2, 1) := by decide +kernel
theorem d65_3 : decode prog_11_method_1_code 3 = .ok (.iload_n 3, 1) := by decide +kernel
theorem d65_4 : decode prog_11_method_1_code 4 = .ok (.iload 4, 2) := by decide +kernel
theorem d65_6 : decode prog_11_method_1_code 6 = .ok (.invokespecial 3, 3) := by decide +kernel
theorem d65_9 : decode prog_11_method_1_code 9 = .ok (.return_, 1) := by decide +kernel
theorem b65_0 {d : Nat} {S : mm_S} {a0 : Nat} {x1 : Int32} {x2 : Int32} {x3 : Int32} {x4 : Int32} (h0 : (decide (a0 < mm_n S) && decide (mm_K S a0 < 13)) = true) : mm_ex (d + 1) 65 0 [.ref a0, .int x1, .int x2, .int x3, .int x4] [] S =
    mm_bd (mm_cl d 25 [.ref a0, .int x1, .int x2, .int x3, .int x4] S) (fun v S2 => mm_ex (d + 1) 65 9 [.ref a0, .int x1, .int x2, .int x3, .int x4] (v.toList ++ []) S2) :=
  Eq.trans (mx_aload_n t65 d65_0 (x := a0) rfl) <|
  Eq.trans (mx_iload_n t65 d65_1 (x := x1) rfl) <|
  Eq.trans (mx_iload_n t65 d65_2 (x := x2) rfl) <|
  Eq.trans (mx_iload_n t65 d65_3 (x := x3) rfl) <|
  Eq.trans (mx_iload t65 d65_4 (x := x4) rfl) <|
  (mx_spec (st := []) t65 [.int x1, .int x2, .int x3, .int x4] d65_6 oin9_3 sp9_3 rfl (Nat.le_of_ble_eq_true rfl) (Nat.le_of_ble_eq_true rfl) h0)
theorem b65_9 {d : Nat} {S : mm_S} {a0 : Nat} {x1 : Int32} {x2 : Int32} {x3 : Int32} {x4 : Int32} : mm_ex d 65 9 [.ref a0, .int x1, .int x2, .int x3, .int x4] [] S =
    some (none, S) :=
  (mx_vret t65 d65_9 rfl)
theorem e65 {d : Nat} {S : mm_S} {a0 : Nat} {x1 : Int32} {x2 : Int32} {x3 : Int32} {x4 : Int32} : mm_cl d 65 [.ref a0, .int x1, .int x2, .int x3, .int x4] S = mm_ex d 65 0 [.ref a0, .int x1, .int x2, .int x3, .int x4] [] S := mm_cl_eq t65 (Nat.le_of_ble_eq_true rfl) rfl
/-! X9_does -/
theorem dd66_0 : (decode prog_11_method_2_code 0 = .ok (.aload_n 1, 1)) ∧ (decode prog_11_method_2_code 1 = .ok (.getfield 9, 3)) ∧ (decode prog_11_method_2_code 4 = .ok (.aload_n 0, 1)) ∧ (decode prog_11_method_2_code 5 = .ok (.getfield 15, 3)) ∧ (decode prog_11_method_2_code 8 = .ok (.iconst 3, 1)) ∧ (decode prog_11_method_2_code 9 = .ok (.imul, 1)) ∧ (decode prog_11_method_2_code 10 = .ok (.aload_n 1, 1)) ∧ (decode prog_11_method_2_code 11 = .ok (.getfield 21, 3)) ∧ (decode prog_11_method_2_code 14 = .ok (.iconst 3, 1)) ∧ (decode prog_11_method_2_code 15 = .ok (.irem, 1)) ∧ (decode prog_11_method_2_code 16 = .ok (.iadd, 1)) ∧ (decode prog_11_method_2_code 17 = .ok (.iaload, 1)) ∧ (decode prog_11_method_2_code 18 = .ok (.istore_n 2, 1)) ∧ (decode prog_11_method_2_code 19 = .ok (.iload_n 2, 1)) ∧ (decode prog_11_method_2_code 20 = .ok (.ifCond .eq 19, 3)) ∧ (decode prog_11_method_2_code 23 = .ok (.iload_n 2, 1)) := by decide +kernel
theorem d66_0 : decode prog_11_method_2_code 0 = .ok (.aload_n 1, 1) := dd66_0.1
theorem d66_1 : decode prog_11_method_2_code 1 = .ok (.getfield 9, 3) := dd66_0.2.1
theorem d66_4 : decode prog_11_method_2_code 4 = .ok (.aload_n 0, 1) := dd66_0.2.2.1
theorem d66_5 : decode prog_11_method_2_code 5 = .ok (.getfield 15, 3) := dd66_0.2.2.2.1
theorem d66_8 : decode prog_11_method_2_code 8 = .ok (.iconst 3, 1) := dd66_0.2.2.2.2.1
theorem d66_9 : decode prog_11_method_2_code 9 = .ok (.imul, 1) := dd66_0.2.2.2.2.2.1
theorem d66_10 : decode prog_11_method_2_code 10 = .ok (.aload_n 1, 1) := dd66_0.2.2.2.2.2.2.1
theorem d66_11 : decode prog_11_method_2_code 11 = .ok (.getfield 21, 3) := dd66_0.2.2.2.2.2.2.2.1
theorem d66_14 : decode prog_11_method_2_code 14 = .ok (.iconst 3, 1) := dd66_0.2.2.2.2.2.2.2.2.1
theorem d66_15 : decode prog_11_method_2_code 15 = .ok (.irem, 1) := dd66_0.2.2.2.2.2.2.2.2.2.1
theorem d66_16 : decode prog_11_method_2_code 16 = .ok (.iadd, 1) := dd66_0.2.2.2.2.2.2.2.2.2.2.1
theorem d66_17 : decode prog_11_method_2_code 17 = .ok (.iaload, 1) := dd66_0.2.2.2.2.2.2.2.2.2.2.2.1
theorem d66_18 : decode prog_11_method_2_code 18 = .ok (.istore_n 2, 1) := dd66_0.2.2.2.2.2.2.2.2.2.2.2.2.1
theorem d66_19 : decode prog_11_method_2_code 19 = .ok (.iload_n 2, 1) := dd66_0.2.2.2.2.2.2.2.2.2.2.2.2.2.1
theorem d66_20 : decode prog_11_method_2_code 20 = .ok (.ifCond .eq 19, 3) := dd66_0.2.2.2.2.2.2.2.2.2.2.2.2.2.2.1
theorem d66_23 : decode prog_11_method_2_code 23 = .ok (.iload_n 2, 1) := dd66_0.2.2.2.2.2.2.2.2.2.2.2.2.2.2.2
theorem dd66_24 : (decode prog_11_method_2_code 24 = .ok (.iconst 3, 1)) ∧ (decode prog_11_method_2_code 25 = .ok (.if_icmp .ne 18, 3)) ∧ (decode prog_11_method_2_code 28 = .ok (.aload_n 1, 1)) ∧ (decode prog_11_method_2_code 29 = .ok (.aload_n 0, 1)) ∧ (decode prog_11_method_2_code 30 = .ok (.getfield 15, 3)) ∧ (decode prog_11_method_2_code 33 = .ok (.invokevirtual 24, 3)) ∧ (decode prog_11_method_2_code 36 = .ok (.ifCond .ne 7, 3)) ∧ (decode prog_11_method_2_code 39 = .ok (.iconst 1, 1)) ∧ (decode prog_11_method_2_code 40 = .ok (.goto 4, 3)) ∧ (decode prog_11_method_2_code 43 = .ok (.iconst 0, 1)) ∧ (decode prog_11_method_2_code 44 = .ok (.istore_n 3, 1)) ∧ (decode prog_11_method_2_code 45 = .ok (.iload_n 3, 1)) ∧ (decode prog_11_method_2_code 46 = .ok (.ifCond .eq 11, 3)) ∧ (decode prog_11_method_2_code 49 = .ok (.aload_n 0, 1)) ∧ (decode prog_11_method_2_code 50 = .ok (.aload_n 1, 1)) ∧ (decode prog_11_method_2_code 51 = .ok (.invokespecial 28, 3)) := by decide +kernel
theorem d66_24 : decode prog_11_method_2_code 24 = .ok (.iconst 3, 1) := dd66_24.1
theorem d66_25 : decode prog_11_method_2_code 25 = .ok (.if_icmp .ne 18, 3) := dd66_24.2.1
theorem d66_28 : decode prog_11_method_2_code 28 = .ok (.aload_n 1, 1) := dd66_24.2.2.1
theorem d66_29 : decode prog_11_method_2_code 29 = .ok (.aload_n 0, 1) := dd66_24.2.2.2.1
theorem d66_30 : decode prog_11_method_2_code 30 = .ok (.getfield 15, 3) := dd66_24.2.2.2.2.1
theorem d66_33 : decode prog_11_method_2_code 33 = .ok (.invokevirtual 24, 3) := dd66_24.2.2.2.2.2.1
theorem d66_36 : decode prog_11_method_2_code 36 = .ok (.ifCond .ne 7, 3) := dd66_24.2.2.2.2.2.2.1
theorem d66_39 : decode prog_11_method_2_code 39 = .ok (.iconst 1, 1) := dd66_24.2.2.2.2.2.2.2.1
theorem d66_40 : decode prog_11_method_2_code 40 = .ok (.goto 4, 3) := dd66_24.2.2.2.2.2.2.2.2.1
theorem d66_43 : decode prog_11_method_2_code 43 = .ok (.iconst 0, 1) := dd66_24.2.2.2.2.2.2.2.2.2.1
theorem d66_44 : decode prog_11_method_2_code 44 = .ok (.istore_n 3, 1) := dd66_24.2.2.2.2.2.2.2.2.2.2.1
theorem d66_45 : decode prog_11_method_2_code 45 = .ok (.iload_n 3, 1) := dd66_24.2.2.2.2.2.2.2.2.2.2.2.1
theorem d66_46 : decode prog_11_method_2_code 46 = .ok (.ifCond .eq 11, 3) := dd66_24.2.2.2.2.2.2.2.2.2.2.2.2.1
theorem d66_49 : decode prog_11_method_2_code 49 = .ok (.aload_n 0, 1) := dd66_24.2.2.2.2.2.2.2.2.2.2.2.2.2.1
theorem d66_50 : decode prog_11_method_2_code 50 = .ok (.aload_n 1, 1) := dd66_24.2.2.2.2.2.2.2.2.2.2.2.2.2.2.1
theorem d66_51 : decode prog_11_method_2_code 51 = .ok (.invokespecial 28, 3) := dd66_24.2.2.2.2.2.2.2.2.2.2.2.2.2.2.2
theorem dd66_54 : (decode prog_11_method_2_code 54 = .ok (.goto 4, 3)) ∧ (decode prog_11_method_2_code 57 = .ok (.iload_n 2, 1)) ∧ (decode prog_11_method_2_code 58 = .ok (.ireturn, 1)) := by decide +kernel
theorem d66_54 : decode prog_11_method_2_code 54 = .ok (.goto 4, 3) := dd66_54.1
theorem d66_57 : decode prog_11_method_2_code 57 = .ok (.iload_n 2, 1) := dd66_54.2.1
theorem d66_58 : decode prog_11_method_2_code 58 = .ok (.ireturn, 1) := dd66_54.2.2
theorem b66_0 {d : Nat} {S : mm_S} {a0 : Nat} {a1 : Nat} (h0 : mm_obj S a1 1 = true) (h1 : (mm_R S a1 2).isSome = true) (h2 : mm_obj S a0 0 = true) (h3 : mm_inb (((mm_M S a0 1) * (nI 3)) + ((mm_M S a1 12) - (mm_M S a1 12) / (nI 3) * (nI 3))) (mm_N S (mm_rg S a1 2)) = true) (h4 : mm_arr S (mm_rg S a1 2) 13 = true) : mm_ex d 66 0 [.ref a0, .ref a1, .null, .null] [] S =
    if (mm_M S (mm_rg S a1 2) (((mm_M S a0 1) * (nI 3)) + ((mm_M S a1 12) - (mm_M S a1 12) / (nI 3) * (nI 3))).toNatClampNeg) = nI 0 then mm_ex d 66 39 [.ref a0, .ref a1, .int (mm_M S (mm_rg S a1 2) (((mm_M S a0 1) * (nI 3)) + ((mm_M S a1 12) - (mm_M S a1 12) / (nI 3) * (nI 3))).toNatClampNeg), .null] [] S else mm_ex d 66 23 [.ref a0, .ref a1, .int (mm_M S (mm_rg S a1 2) (((mm_M S a0 1) * (nI 3)) + ((mm_M S a1 12) - (mm_M S a1 12) / (nI 3) * (nI 3))).toNatClampNeg), .null] [] S :=
  Eq.trans (mx_aload_n t66 d66_0 (x := a1) rfl) <|
  Eq.trans (mx_getR t66 d66_1 rfl fl9_9 h0 h1) <|
  Eq.trans (mx_aload_n t66 d66_4 (x := a0) rfl) <|
  Eq.trans (mx_geti t66 d66_5 rfl fl9_15 h2) <|
  Eq.trans (mx_iconst t66 d66_8 (v := nI 3) rfl) <|
  Eq.trans (mx_imul t66 d66_9) <|
  Eq.trans (mx_aload_n t66 d66_10 (x := a1) rfl) <|
  Eq.trans (mx_geti t66 d66_11 rfl fl9_21 h0) <|
  Eq.trans (mx_iconst t66 d66_14 (v := nI 3) rfl) <|
  Eq.trans (mx_irem t66 d66_15 (by decide)) <|
  Eq.trans (mx_iadd t66 d66_16) <|
  Eq.trans (mx_iald t66 d66_17 h4 h3) <|
  Eq.trans (mx_istore_n t66 d66_18 (ls' := [.ref a0, .ref a1, .int (mm_M S (mm_rg S a1 2) (((mm_M S a0 1) * (nI 3)) + ((mm_M S a1 12) - (mm_M S a1 12) / (nI 3) * (nI 3))).toNatClampNeg), .null]) rfl rfl) <|
  Eq.trans (mx_iload_n t66 d66_19 (x := mm_M S (mm_rg S a1 2) (((mm_M S a0 1) * (nI 3)) + ((mm_M S a1 12) - (mm_M S a1 12) / (nI 3) * (nI 3))).toNatClampNeg) rfl) <|
  (mx_ieq t66 d66_20 (tgt := 39) (by decide))
theorem b66_23 {d : Nat} {S : mm_S} {a0 : Nat} {a1 : Nat} {x2 : Int32} : mm_ex d 66 23 [.ref a0, .ref a1, .int x2, .null] [] S =
    if x2 = (nI 3) then mm_ex d 66 28 [.ref a0, .ref a1, .int x2, .null] [] S else mm_ex d 66 43 [.ref a0, .ref a1, .int x2, .null] [] S :=
  Eq.trans (mx_iload_n t66 d66_23 (x := x2) rfl) <|
  Eq.trans (mx_iconst t66 d66_24 (v := nI 3) rfl) <|
  (mx_cne t66 d66_25 (tgt := 43) (by decide))
theorem b66_28 {d : Nat} {S : mm_S} {a0 : Nat} {a1 : Nat} {x2 : Int32} (h0 : mm_obj S a0 0 = true) (h1 : mm_rk S a1 = 1) : mm_ex (d + 1) 66 28 [.ref a0, .ref a1, .int x2, .null] [] S =
    mm_bd (mm_cl d 16 [.ref a1, .int (mm_M S a0 1)] S) (fun v S2 => mm_ex (d + 1) 66 36 [.ref a0, .ref a1, .int x2, .null] (v.toList ++ []) S2) :=
  Eq.trans (mx_aload_n t66 d66_28 (x := a1) rfl) <|
  Eq.trans (mx_aload_n t66 d66_29 (x := a0) rfl) <|
  Eq.trans (mx_geti t66 d66_30 rfl fl9_15 h0) <|
  (mx_virt (st := []) (k := 1) t66 [.int (mm_M S a0 1)] d66_33 vt9_24 rfl rfl (Nat.le_of_ble_eq_true rfl) (Nat.le_of_ble_eq_true rfl) h1)
theorem b66_36 {d : Nat} {S : mm_S} {a0 : Nat} {a1 : Nat} {x2 : Int32} {p0 : Int32} : mm_ex d 66 36 [.ref a0, .ref a1, .int x2, .null] [.int p0] S =
    if p0 = nI 0 then mm_ex d 66 39 [.ref a0, .ref a1, .int x2, .null] [] S else mm_ex d 66 43 [.ref a0, .ref a1, .int x2, .null] [] S :=
  (mx_ine t66 d66_36 (tgt := 43) (by decide))
theorem b66_39 {d : Nat} {S : mm_S} {a0 : Nat} {a1 : Nat} {x2 : Int32} : mm_ex d 66 39 [.ref a0, .ref a1, .int x2, .null] [] S =
    if (nI 1) = nI 0 then mm_ex d 66 57 [.ref a0, .ref a1, .int x2, .int (nI 1)] [] S else mm_ex d 66 49 [.ref a0, .ref a1, .int x2, .int (nI 1)] [] S :=
  Eq.trans (mx_iconst t66 d66_39 (v := nI 1) rfl) <|
  Eq.trans (mx_goto t66 d66_40 (tgt := 44) (by decide)) <|
  Eq.trans (mx_istore_n t66 d66_44 (ls' := [.ref a0, .ref a1, .int x2, .int (nI 1)]) rfl rfl) <|
  Eq.trans (mx_iload_n t66 d66_45 (x := nI 1) rfl) <|
  (mx_ieq t66 d66_46 (tgt := 57) (by decide))
theorem b66_43 {d : Nat} {S : mm_S} {a0 : Nat} {a1 : Nat} {x2 : Int32} : mm_ex d 66 43 [.ref a0, .ref a1, .int x2, .null] [] S =
    if (nI 0) = nI 0 then mm_ex d 66 57 [.ref a0, .ref a1, .int x2, .int (nI 0)] [] S else mm_ex d 66 49 [.ref a0, .ref a1, .int x2, .int (nI 0)] [] S :=
  Eq.trans (mx_iconst t66 d66_43 (v := nI 0) rfl) <|
  Eq.trans (mx_istore_n t66 d66_44 (ls' := [.ref a0, .ref a1, .int x2, .int (nI 0)]) rfl rfl) <|
  Eq.trans (mx_iload_n t66 d66_45 (x := nI 0) rfl) <|
  (mx_ieq t66 d66_46 (tgt := 57) (by decide))
theorem b66_49 {d : Nat} {S : mm_S} {a0 : Nat} {a1 : Nat} {x2 : Int32} {x3 : Int32} (h0 : (decide (a0 < mm_n S) && decide (mm_K S a0 < 13)) = true) : mm_ex (d + 1) 66 49 [.ref a0, .ref a1, .int x2, .int x3] [] S =
    mm_bd (mm_cl d 26 [.ref a0, .ref a1] S) (fun v S2 => mm_ex (d + 1) 66 54 [.ref a0, .ref a1, .int x2, .int x3] (v.toList ++ []) S2) :=
  Eq.trans (mx_aload_n t66 d66_49 (x := a0) rfl) <|
  Eq.trans (mx_aload_n t66 d66_50 (x := a1) rfl) <|
  (mx_spec (st := []) t66 [.ref a1] d66_51 oin9_28 sp9_28 rfl (Nat.le_of_ble_eq_true rfl) (Nat.le_of_ble_eq_true rfl) h0)
theorem b66_54 {d : Nat} {S : mm_S} {a0 : Nat} {a1 : Nat} {x2 : Int32} {x3 : Int32} {p0 : Int32} : mm_ex d 66 54 [.ref a0, .ref a1, .int x2, .int x3] [.int p0] S =
    some (some (.int p0), S) :=
  Eq.trans (mx_goto t66 d66_54 (tgt := 58) (by decide)) <|
  (mx_iret t66 d66_58 (ty := .int) rfl rfl (fun h => nomatch h))
theorem b66_57 {d : Nat} {S : mm_S} {a0 : Nat} {a1 : Nat} {x2 : Int32} {x3 : Int32} : mm_ex d 66 57 [.ref a0, .ref a1, .int x2, .int x3] [] S =
    some (some (.int x2), S) :=
  Eq.trans (mx_iload_n t66 d66_57 (x := x2) rfl) <|
  (mx_iret t66 d66_58 (ty := .int) rfl rfl (fun h => nomatch h))
theorem e66 {d : Nat} {S : mm_S} {a0 : Nat} {a1 : Nat} : mm_cl d 66 [.ref a0, .ref a1] S = mm_ex d 66 0 [.ref a0, .ref a1, .null, .null] [] S := mm_cl_eq t66 (Nat.le_of_ble_eq_true rfl) rfl
/-! X9_waits -/
theorem d67_0 : decode prog_11_method_3_code 0 = .ok (.aload_n 2, 1) := by decide +kernel
theorem d67_1 : decode prog_11_method_3_code 1 = .ok (.bipush 70, 2) := by decide +kernel
theorem d67_3 : decode prog_11_method_3_code 3 = .ok (.invokestatic 32, 3) := by decide +kernel
theorem d67_6 : decode prog_11_method_3_code 6 = .ok (.aload_n 0, 1) := by decide +kernel
theorem d67_7 : decode prog_11_method_3_code 7 = .ok (.iload_n 1, 1) := by decide +kernel
theorem d67_8 : decode prog_11_method_3_code 8 = .ok (.aload_n 2, 1) := by decide +kernel
theorem d67_9 : decode prog_11_method_3_code 9 = .ok (.invokespecial 36, 3) := by decide +kernel
theorem d67_12 : decode prog_11_method_3_code 12 = .ok (.aload_n 0, 1) := by decide +kernel
theorem d67_13 : decode prog_11_method_3_code 13 = .ok (.iconst 2, 1) := by decide +kernel
theorem d67_14 : decode prog_11_method_3_code 14 = .ok (.aload_n 2, 1) := by decide +kernel
theorem d67_15 : decode prog_11_method_3_code 15 = .ok (.invokespecial 40, 3) := by decide +kernel
theorem d67_18 : decode prog_11_method_3_code 18 = .ok (.iadd, 1) := by decide +kernel
theorem d67_19 : decode prog_11_method_3_code 19 = .ok (.ireturn, 1) := by decide +kernel
theorem b67_0 {d : Nat} {S : mm_S} {a0 : Nat} {x1 : Int32} {a2 : Nat} : mm_ex (d + 1) 67 0 [.ref a0, .int x1, .ref a2] [] S =
    mm_bd (mm_cl d 1 [.ref a2, .int (nI 70)] S) (fun v S2 => mm_ex (d + 1) 67 6 [.ref a0, .int x1, .ref a2] (v.toList ++ []) S2) :=
  Eq.trans (mx_aload_n t67 d67_0 (x := a2) rfl) <|
  Eq.trans (mx_bipush t67 d67_1 (v := nI 70) rfl) <|
  (mx_stat (st := []) t67 [.ref a2, .int (nI 70)] d67_3 acn9_32 mxn9_32 st9_32 rfl (Nat.le_of_ble_eq_true rfl) (Nat.le_of_ble_eq_true rfl))
theorem b67_6 {d : Nat} {S : mm_S} {a0 : Nat} {x1 : Int32} {a2 : Nat} (h0 : (decide (a0 < mm_n S) && decide (mm_K S a0 < 13)) = true) : mm_ex (d + 1) 67 6 [.ref a0, .int x1, .ref a2] [] S =
    mm_bd (mm_cl d 4 [.ref a0, .int x1, .ref a2] S) (fun v S2 => mm_ex (d + 1) 67 12 [.ref a0, .int x1, .ref a2] (v.toList ++ []) S2) :=
  Eq.trans (mx_aload_n t67 d67_6 (x := a0) rfl) <|
  Eq.trans (mx_iload_n t67 d67_7 (x := x1) rfl) <|
  Eq.trans (mx_aload_n t67 d67_8 (x := a2) rfl) <|
  (mx_spec (st := []) t67 [.int x1, .ref a2] d67_9 oin9_36 sp9_36 rfl (Nat.le_of_ble_eq_true rfl) (Nat.le_of_ble_eq_true rfl) h0)
theorem b67_12 {d : Nat} {S : mm_S} {a0 : Nat} {x1 : Int32} {a2 : Nat} {p0 : Int32} (h0 : (decide (a0 < mm_n S) && decide (mm_K S a0 < 13)) = true) : mm_ex (d + 1) 67 12 [.ref a0, .int x1, .ref a2] [.int p0] S =
    mm_bd (mm_cl d 3 [.ref a0, .int (nI 2), .ref a2] S) (fun v S2 => mm_ex (d + 1) 67 18 [.ref a0, .int x1, .ref a2] (v.toList ++ [.int p0]) S2) :=
  Eq.trans (mx_aload_n t67 d67_12 (x := a0) rfl) <|
  Eq.trans (mx_iconst t67 d67_13 (v := nI 2) rfl) <|
  Eq.trans (mx_aload_n t67 d67_14 (x := a2) rfl) <|
  (mx_spec (st := [.int p0]) t67 [.int (nI 2), .ref a2] d67_15 oin9_40 sp9_40 rfl (Nat.le_of_ble_eq_true rfl) (Nat.le_of_ble_eq_true rfl) h0)
theorem b67_18 {d : Nat} {S : mm_S} {a0 : Nat} {x1 : Int32} {a2 : Nat} {p0 : Int32} {p1 : Int32} : mm_ex d 67 18 [.ref a0, .int x1, .ref a2] [.int p0, .int p1] S =
    some (some (.int (p1 + p0)), S) :=
  Eq.trans (mx_iadd t67 d67_18) <|
  (mx_iret t67 d67_19 (ty := .int) rfl rfl (fun h => nomatch h))
theorem e67 {d : Nat} {S : mm_S} {a0 : Nat} {x1 : Int32} {a2 : Nat} : mm_cl d 67 [.ref a0, .int x1, .ref a2] S = mm_ex d 67 0 [.ref a0, .int x1, .ref a2] [] S := mm_cl_eq t67 (Nat.le_of_ble_eq_true rfl) rfl
/-! X9_bids -/
theorem d68_0 : decode prog_11_method_4_code 0 = .ok (.aload_n 2, 1) := by decide +kernel
theorem d68_1 : decode prog_11_method_4_code 1 = .ok (.bipush 71, 2) := by decide +kernel
theorem d68_3 : decode prog_11_method_4_code 3 = .ok (.invokestatic 32, 3) := by decide +kernel
theorem d68_6 : decode prog_11_method_4_code 6 = .ok (.aload_n 0, 1) := by decide +kernel
theorem d68_7 : decode prog_11_method_4_code 7 = .ok (.iload_n 1, 1) := by decide +kernel
theorem d68_8 : decode prog_11_method_4_code 8 = .ok (.aload_n 2, 1) := by decide +kernel
theorem d68_9 : decode prog_11_method_4_code 9 = .ok (.invokespecial 40, 3) := by decide +kernel
theorem d68_12 : decode prog_11_method_4_code 12 = .ok (.aload_n 0, 1) := by decide +kernel
theorem d68_13 : decode prog_11_method_4_code 13 = .ok (.getfield 43, 3) := by decide +kernel
theorem d68_16 : decode prog_11_method_4_code 16 = .ok (.ixor, 1) := by decide +kernel
theorem d68_17 : decode prog_11_method_4_code 17 = .ok (.ireturn, 1) := by decide +kernel
theorem b68_0 {d : Nat} {S : mm_S} {a0 : Nat} {x1 : Int32} {a2 : Nat} : mm_ex (d + 1) 68 0 [.ref a0, .int x1, .ref a2] [] S =
    mm_bd (mm_cl d 1 [.ref a2, .int (nI 71)] S) (fun v S2 => mm_ex (d + 1) 68 6 [.ref a0, .int x1, .ref a2] (v.toList ++ []) S2) :=
  Eq.trans (mx_aload_n t68 d68_0 (x := a2) rfl) <|
  Eq.trans (mx_bipush t68 d68_1 (v := nI 71) rfl) <|
  (mx_stat (st := []) t68 [.ref a2, .int (nI 71)] d68_3 acn9_32 mxn9_32 st9_32 rfl (Nat.le_of_ble_eq_true rfl) (Nat.le_of_ble_eq_true rfl))
theorem b68_6 {d : Nat} {S : mm_S} {a0 : Nat} {x1 : Int32} {a2 : Nat} (h0 : (decide (a0 < mm_n S) && decide (mm_K S a0 < 13)) = true) : mm_ex (d + 1) 68 6 [.ref a0, .int x1, .ref a2] [] S =
    mm_bd (mm_cl d 3 [.ref a0, .int x1, .ref a2] S) (fun v S2 => mm_ex (d + 1) 68 12 [.ref a0, .int x1, .ref a2] (v.toList ++ []) S2) :=
  Eq.trans (mx_aload_n t68 d68_6 (x := a0) rfl) <|
  Eq.trans (mx_iload_n t68 d68_7 (x := x1) rfl) <|
  Eq.trans (mx_aload_n t68 d68_8 (x := a2) rfl) <|
  (mx_spec (st := []) t68 [.int x1, .ref a2] d68_9 oin9_40 sp9_40 rfl (Nat.le_of_ble_eq_true rfl) (Nat.le_of_ble_eq_true rfl) h0)
theorem b68_12 {d : Nat} {S : mm_S} {a0 : Nat} {x1 : Int32} {a2 : Nat} {p0 : Int32} (h0 : mm_obj S a0 0 = true) : mm_ex d 68 12 [.ref a0, .int x1, .ref a2] [.int p0] S =
    some (some (.int (p0 ^^^ (mm_M S a0 2))), S) :=
  Eq.trans (mx_aload_n t68 d68_12 (x := a0) rfl) <|
  Eq.trans (mx_geti t68 d68_13 rfl fl9_43 h0) <|
  Eq.trans (mx_ixor t68 d68_16) <|
  (mx_iret t68 d68_17 (ty := .int) rfl rfl (fun h => nomatch h))
theorem e68 {d : Nat} {S : mm_S} {a0 : Nat} {x1 : Int32} {a2 : Nat} : mm_cl d 68 [.ref a0, .int x1, .ref a2] S = mm_ex d 68 0 [.ref a0, .int x1, .ref a2] [] S := mm_cl_eq t68 (Nat.le_of_ble_eq_true rfl) rfl
/-! X10_init -/
theorem d69_0 : decode prog_12_method_1_code 0 = .ok (.aload_n 0, 1) := by decide +kernel
theorem d69_1 : decode prog_12_method_1_code 1 = .ok (.iload_n 1, 1) := by decide +kernel
theorem d69_2 : decode prog_12_method_1_code 2 = .ok (.iload_n 2, 1) := by decide +kernel
theorem d69_3 : decode prog_12_method_1_code 3 = .ok (.iload_n 3, 1) := by decide +kernel
theorem d69_4 : decode prog_12_method_1_code 4 = .ok (.iload 4, 2) := by decide +kernel
theorem d69_6 : decode prog_12_method_1_code 6 = .ok (.invokespecial 3, 3) := by decide +kernel
theorem d69_9 : decode prog_12_method_1_code 9 = .ok (.return_, 1) := by decide +kernel
theorem b69_0 {d : Nat} {S : mm_S} {a0 : Nat} {x1 : Int32} {x2 : Int32} {x3 : Int32} {x4 : Int32} (h0 : (decide (a0 < mm_n S) && decide (mm_K S a0 < 13)) = true) : mm_ex (d + 1) 69 0 [.ref a0, .int x1, .int x2, .int x3, .int x4] [] S =
    mm_bd (mm_cl d 0 [.ref a0, .int x1, .int x2, .int x3, .int x4] S) (fun v S2 => mm_ex (d + 1) 69 9 [.ref a0, .int x1, .int x2, .int x3, .int x4] (v.toList ++ []) S2) :=
  Eq.trans (mx_aload_n t69 d69_0 (x := a0) rfl) <|
  Eq.trans (mx_iload_n t69 d69_1 (x := x1) rfl) <|
  Eq.trans (mx_iload_n t69 d69_2 (x := x2) rfl) <|
  Eq.trans (mx_iload_n t69 d69_3 (x := x3) rfl) <|
  Eq.trans (mx_iload t69 d69_4 (x := x4) rfl) <|
  (mx_spec (st := []) t69 [.int x1, .int x2, .int x3, .int x4] d69_6 oin10_3 sp10_3 rfl (Nat.le_of_ble_eq_true rfl) (Nat.le_of_ble_eq_true rfl) h0)
theorem b69_9 {d : Nat} {S : mm_S} {a0 : Nat} {x1 : Int32} {x2 : Int32} {x3 : Int32} {x4 : Int32} : mm_ex d 69 9 [.ref a0, .int x1, .int x2, .int x3, .int x4] [] S =
    some (none, S) :=
  (mx_vret t69 d69_9 rfl)
theorem e69 {d : Nat} {S : mm_S} {a0 : Nat} {x1 : Int32} {x2 : Int32} {x3 : Int32} {x4 : Int32} : mm_cl d 69 [.ref a0, .int x1, .int x2, .int x3, .int x4] S = mm_ex d 69 0 [.ref a0, .int x1, .int x2, .int x3, .int x4] [] S := mm_cl_eq t69 (Nat.le_of_ble_eq_true rfl) rfl
/-! X10_does -/
theorem d70_0 : decode prog_12_method_2_code 0 = .ok (.aload_n 1, 1) := by decide +kernel
theorem d70_1 : decode prog_12_method_2_code 1 = .ok (.getfield 9, 3) := by decide +kernel
theorem d70_4 : decode prog_12_method_2_code 4 = .ok (.aload_n 1, 1) := by decide +kernel
theorem d70_5 : decode prog_12_method_2_code 5 = .ok (.getfield 15, 3) := by decide +kernel
theorem d70_8 : decode prog_12_method_2_code 8 = .ok (.if_icmp .ge 18, 3) := by decide +kernel
theorem d70_11 : decode prog_12_method_2_code 11 = .ok (.aload_n 1, 1) := by decide +kernel
theorem d70_12 : decode prog_12_method_2_code 12 = .ok (.aload_n 0, 1) := by decide +kernel
theorem d70_13 : decode prog_12_method_2_code 13 = .ok (.getfield 18, 3) := by decide +kernel
theorem d70_16 : decode prog_12_method_2_code 16 = .ok (.invokevirtual 23, 3) := by decide +kernel
theorem d70_19 : decode prog_12_method_2_code 19 = .ok (.ifCond .eq 7, 3) := by decide +kernel
theorem d70_22 : decode prog_12_method_2_code 22 = .ok (.iconst 3, 1) := by decide +kernel
theorem d70_23 : decode prog_12_method_2_code 23 = .ok (.goto 8, 3) := by decide +kernel
theorem d70_26 : decode prog_12_method_2_code 26 = .ok (.aload_n 0, 1) := by decide +kernel
theorem d70_27 : decode prog_12_method_2_code 27 = .ok (.aload_n 1, 1) := by decide +kernel
theorem d70_28 : decode prog_12_method_2_code 28 = .ok (.invokespecial 27, 3) := by decide +kernel
theorem d70_31 : decode prog_12_method_2_code 31 = .ok (.ireturn, 1) := by decide +kernel
theorem b70_0 {d : Nat} {S : mm_S} {a0 : Nat} {a1 : Nat} (h0 : mm_obj S a1 1 = true) : mm_ex d 70 0 [.ref a0, .ref a1] [] S =
    if (mm_M S a1 12) ≤ (mm_M S a1 18) then mm_ex d 70 26 [.ref a0, .ref a1] [] S else mm_ex d 70 11 [.ref a0, .ref a1] [] S :=
  Eq.trans (mx_aload_n t70 d70_0 (x := a1) rfl) <|
  Eq.trans (mx_geti t70 d70_1 rfl fl10_9 h0) <|
  Eq.trans (mx_aload_n t70 d70_4 (x := a1) rfl) <|
  Eq.trans (mx_geti t70 d70_5 rfl fl10_15 h0) <|
  (mx_cge t70 d70_8 (tgt := 26) (by decide))
theorem b70_11 {d : Nat} {S : mm_S} {a0 : Nat} {a1 : Nat} (h0 : mm_obj S a0 0 = true) (h1 : mm_rk S a1 = 1) : mm_ex (d + 1) 70 11 [.ref a0, .ref a1] [] S =
    mm_bd (mm_cl d 16 [.ref a1, .int (mm_M S a0 1)] S) (fun v S2 => mm_ex (d + 1) 70 19 [.ref a0, .ref a1] (v.toList ++ []) S2) :=
  Eq.trans (mx_aload_n t70 d70_11 (x := a1) rfl) <|
  Eq.trans (mx_aload_n t70 d70_12 (x := a0) rfl) <|
  Eq.trans (mx_geti t70 d70_13 rfl fl10_18 h0) <|
  (mx_virt (st := []) (k := 1) t70 [.int (mm_M S a0 1)] d70_16 vt10_23 rfl rfl (Nat.le_of_ble_eq_true rfl) (Nat.le_of_ble_eq_true rfl) h1)
theorem b70_19 {d : Nat} {S : mm_S} {a0 : Nat} {a1 : Nat} {p0 : Int32} : mm_ex d 70 19 [.ref a0, .ref a1] [.int p0] S =
    if p0 = nI 0 then mm_ex d 70 26 [.ref a0, .ref a1] [] S else mm_ex d 70 22 [.ref a0, .ref a1] [] S :=
  (mx_ieq t70 d70_19 (tgt := 26) (by decide))
theorem b70_22 {d : Nat} {S : mm_S} {a0 : Nat} {a1 : Nat} : mm_ex d 70 22 [.ref a0, .ref a1] [] S =
    some (some (.int (nI 3)), S) :=
  Eq.trans (mx_iconst t70 d70_22 (v := nI 3) rfl) <|
  Eq.trans (mx_goto t70 d70_23 (tgt := 31) (by decide)) <|
  (mx_iret t70 d70_31 (ty := .int) rfl rfl (fun h => nomatch h))
theorem b70_26 {d : Nat} {S : mm_S} {a0 : Nat} {a1 : Nat} (h0 : (decide (a0 < mm_n S) && decide (mm_K S a0 < 13)) = true) : mm_ex (d + 1) 70 26 [.ref a0, .ref a1] [] S =
    mm_bd (mm_cl d 2 [.ref a0, .ref a1] S) (fun v S2 => mm_ex (d + 1) 70 31 [.ref a0, .ref a1] (v.toList ++ []) S2) :=
  Eq.trans (mx_aload_n t70 d70_26 (x := a0) rfl) <|
  Eq.trans (mx_aload_n t70 d70_27 (x := a1) rfl) <|
  (mx_spec (st := []) t70 [.ref a1] d70_28 oin10_27 sp10_27 rfl (Nat.le_of_ble_eq_true rfl) (Nat.le_of_ble_eq_true rfl) h0)
theorem b70_31 {d : Nat} {S : mm_S} {a0 : Nat} {a1 : Nat} {p0 : Int32} : mm_ex d 70 31 [.ref a0, .ref a1] [.int p0] S =
    some (some (.int p0), S) :=
  (mx_iret t70 d70_31 (ty := .int) rfl rfl (fun h => nomatch h))
theorem e70 {d : Nat} {S : mm_S} {a0 : Nat} {a1 : Nat} : mm_cl d 70 [.ref a0, .ref a1] S = mm_ex d 70 0 [.ref a0, .ref a1] [] S := mm_cl_eq t70 (Nat.le_of_ble_eq_true rfl) rfl
/-! X10_bids -/
theorem d71_0 : decode prog_12_method_3_code 0 = .ok (.aload_n 2, 1) := by decide +kernel
theorem d71_1 : decode prog_12_method_3_code 1 = .ok (.bipush 30, 2) := by decide +kernel
theorem d71_3 : decode prog_12_method_3_code 3 = .ok (.invokestatic 31, 3) := by decide +kernel
theorem d71_6 : decode prog_12_method_3_code 6 = .ok (.aload_n 0, 1) := by decide +kernel
theorem d71_7 : decode prog_12_method_3_code 7 = .ok (.iload_n 1, 1) := by decide +kernel
theorem d71_8 : decode prog_12_method_3_code 8 = .ok (.iconst 3, 1) := by decide +kernel
theorem d71_9 : decode prog_12_method_3_code 9 = .ok (.imul, 1) := by decide +kernel
theorem d71_10 : decode prog_12_method_3_code 10 = .ok (.aload_n 2, 1) := by decide +kernel
theorem d71_11 : decode prog_12_method_3_code 11 = .ok (.invokespecial 35, 3) := by decide +kernel
theorem d71_14 : decode prog_12_method_3_code 14 = .ok (.ireturn, 1) := by decide +kernel
theorem b71_0 {d : Nat} {S : mm_S} {a0 : Nat} {x1 : Int32} {a2 : Nat} : mm_ex (d + 1) 71 0 [.ref a0, .int x1, .ref a2] [] S =
    mm_bd (mm_cl d 1 [.ref a2, .int (nI 30)] S) (fun v S2 => mm_ex (d + 1) 71 6 [.ref a0, .int x1, .ref a2] (v.toList ++ []) S2) :=
  Eq.trans (mx_aload_n t71 d71_0 (x := a2) rfl) <|
  Eq.trans (mx_bipush t71 d71_1 (v := nI 30) rfl) <|
  (mx_stat (st := []) t71 [.ref a2, .int (nI 30)] d71_3 acn10_31 mxn10_31 st10_31 rfl (Nat.le_of_ble_eq_true rfl) (Nat.le_of_ble_eq_true rfl))
theorem b71_6 {d : Nat} {S : mm_S} {a0 : Nat} {x1 : Int32} {a2 : Nat} (h0 : (decide (a0 < mm_n S) && decide (mm_K S a0 < 13)) = true) : mm_ex (d + 1) 71 6 [.ref a0, .int x1, .ref a2] [] S =
    mm_bd (mm_cl d 3 [.ref a0, .int (x1 * (nI 3)), .ref a2] S) (fun v S2 => mm_ex (d + 1) 71 14 [.ref a0, .int x1, .ref a2] (v.toList ++ []) S2) :=
  Eq.trans (mx_aload_n t71 d71_6 (x := a0) rfl) <|
  Eq.trans (mx_iload_n t71 d71_7 (x := x1) rfl) <|
  Eq.trans (mx_iconst t71 d71_8 (v := nI 3) rfl) <|
  Eq.trans (mx_imul t71 d71_9) <|
  Eq.trans (mx_aload_n t71 d71_10 (x := a2) rfl) <|
  (mx_spec (st := []) t71 [.int (x1 * (nI 3)), .ref a2] d71_11 oin10_35 sp10_35 rfl (Nat.le_of_ble_eq_true rfl) (Nat.le_of_ble_eq_true rfl) h0)
theorem b71_14 {d : Nat} {S : mm_S} {a0 : Nat} {x1 : Int32} {a2 : Nat} {p0 : Int32} : mm_ex d 71 14 [.ref a0, .int x1, .ref a2] [.int p0] S =
    some (some (.int p0), S) :=
  (mx_iret t71 d71_14 (ty := .int) rfl rfl (fun h => nomatch h))
theorem e71 {d : Nat} {S : mm_S} {a0 : Nat} {x1 : Int32} {a2 : Nat} : mm_cl d 71 [.ref a0, .int x1, .ref a2] S = mm_ex d 71 0 [.ref a0, .int x1, .ref a2] [] S := mm_cl_eq t71 (Nat.le_of_ble_eq_true rfl) rfl
